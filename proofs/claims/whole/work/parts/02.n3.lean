theorem dX10_begin_51 : decode cX10_begin 51 = .ok (.aload_n 0, 1) := by decide +kernel
theorem dX10_begin_52 : decode cX10_begin 52 = .ok (.getfield 10, 3) := by decide +kernel
theorem dX10_begin_55 : decode cX10_begin 55 = .ok (.iload_n 2, 1) := by decide +kernel
theorem dX10_begin_56 : decode cX10_begin 56 = .ok (.invokevirtual 51, 3) := by decide +kernel
theorem dX10_begin_59 : decode cX10_begin 59 = .ok (.checkcast 55, 3) := by decide +kernel
theorem dX10_begin_62 : decode cX10_begin 62 = .ok (.getfield 57, 3) := by decide +kernel
theorem dX10_begin_65 : decode cX10_begin 65 = .ok (.dup2, 1) := by decide +kernel
theorem dX10_begin_66 : decode cX10_begin 66 = .ok (.iaload, 1) := by decide +kernel
theorem dX10_begin_67 : decode cX10_begin 67 = .ok (.iconst 1, 1) := by decide +kernel
theorem dX10_begin_68 : decode cX10_begin 68 = .ok (.isub, 1) := by decide +kernel
theorem dX10_begin_69 : decode cX10_begin 69 = .ok (.iastore, 1) := by decide +kernel
theorem dX10_begin_70 : decode cX10_begin 70 = .ok (.return_, 1) := by decide +kernel
theorem dX10_takeBack_0 : decode cX10_takeBack 0 = .ok (.aload_n 1, 1) := by decide +kernel
theorem dX10_takeBack_1 : decode cX10_takeBack 1 = .ok (.invokevirtual 183, 3) := by decide +kernel
theorem dX10_takeBack_4 : decode cX10_takeBack 4 = .ok (.istore_n 2, 1) := by decide +kernel
theorem dX10_takeBack_5 : decode cX10_takeBack 5 = .ok (.iload_n 2, 1) := by decide +kernel
theorem dX10_takeBack_6 : decode cX10_takeBack 6 = .ok (.iconst (-1), 1) := by decide +kernel
theorem dX10_takeBack_7 : decode cX10_takeBack 7 = .ok (.if_icmp .ne 4, 3) := by decide +kernel
theorem dX10_takeBack_10 : decode cX10_takeBack 10 = .ok (.return_, 1) := by decide +kernel
theorem dX10_takeBack_11 : decode cX10_takeBack 11 = .ok (.aload_n 1, 1) := by decide +kernel
theorem dX10_takeBack_12 : decode cX10_takeBack 12 = .ok (.getfield 75, 3) := by decide +kernel
theorem dX10_takeBack_15 : decode cX10_takeBack 15 = .ok (.iload_n 2, 1) := by decide +kernel
theorem dX10_takeBack_16 : decode cX10_takeBack 16 = .ok (.iconst 3, 1) := by decide +kernel
theorem dX10_takeBack_17 : decode cX10_takeBack 17 = .ok (.iastore, 1) := by decide +kernel
theorem dX10_takeBack_18 : decode cX10_takeBack 18 = .ok (.aload_n 0, 1) := by decide +kernel
theorem dX10_takeBack_19 : decode cX10_takeBack 19 = .ok (.getfield 10, 3) := by decide +kernel
theorem dX10_takeBack_22 : decode cX10_takeBack 22 = .ok (.iload_n 2, 1) := by decide +kernel
theorem dX10_takeBack_23 : decode cX10_takeBack 23 = .ok (.invokevirtual 51, 3) := by decide +kernel
theorem dX10_takeBack_26 : decode cX10_takeBack 26 = .ok (.checkcast 55, 3) := by decide +kernel
theorem dX10_takeBack_29 : decode cX10_takeBack 29 = .ok (.getfield 60, 3) := by decide +kernel
theorem dX10_takeBack_32 : decode cX10_takeBack 32 = .ok (.iconst 1, 1) := by decide +kernel
theorem dX10_takeBack_33 : decode cX10_takeBack 33 = .ok (.if_icmp .ne 26, 3) := by decide +kernel
theorem dX10_takeBack_36 : decode cX10_takeBack 36 = .ok (.aload_n 0, 1) := by decide +kernel
theorem dX10_takeBack_37 : decode cX10_takeBack 37 = .ok (.getfield 23, 3) := by decide +kernel
theorem dX10_takeBack_40 : decode cX10_takeBack 40 = .ok (.aload_n 0, 1) := by decide +kernel
theorem dX10_takeBack_41 : decode cX10_takeBack 41 = .ok (.getfield 10, 3) := by decide +kernel
theorem dX10_takeBack_44 : decode cX10_takeBack 44 = .ok (.iload_n 2, 1) := by decide +kernel
theorem dX10_takeBack_45 : decode cX10_takeBack 45 = .ok (.invokevirtual 51, 3) := by decide +kernel
theorem dX10_takeBack_48 : decode cX10_takeBack 48 = .ok (.checkcast 55, 3) := by decide +kernel
theorem dX10_takeBack_51 : decode cX10_takeBack 51 = .ok (.getfield 57, 3) := by decide +kernel
theorem dX10_takeBack_54 : decode cX10_takeBack 54 = .ok (.dup2, 1) := by decide +kernel
theorem dX10_takeBack_55 : decode cX10_takeBack 55 = .ok (.iaload, 1) := by decide +kernel
theorem dX10_takeBack_56 : decode cX10_takeBack 56 = .ok (.iconst 1, 1) := by decide +kernel
theorem dX10_takeBack_57 : decode cX10_takeBack 57 = .ok (.iadd, 1) := by decide +kernel
theorem dX10_takeBack_58 : decode cX10_takeBack 58 = .ok (.iastore, 1) := by decide +kernel
theorem dX10_takeBack_59 : decode cX10_takeBack 59 = .ok (.return_, 1) := by decide +kernel
theorem dX10_day_0 : decode cX10_day 0 = .ok (.aload_n 0, 1) := by decide +kernel
theorem dX10_day_1 : decode cX10_day 1 = .ok (.aload_n 0, 1) := by decide +kernel
theorem dX10_day_2 : decode cX10_day 2 = .ok (.getfield 103, 3) := by decide +kernel
theorem dX10_day_5 : decode cX10_day 5 = .ok (.sipush 199, 3) := by decide +kernel
theorem dX10_day_8 : decode cX10_day 8 = .ok (.if_icmp .ne 7, 3) := by decide +kernel
theorem dX10_day_11 : decode cX10_day 11 = .ok (.iconst 1, 1) := by decide +kernel
theorem dX10_day_12 : decode cX10_day 12 = .ok (.goto 4, 3) := by decide +kernel
theorem dX10_day_15 : decode cX10_day 15 = .ok (.iconst 0, 1) := by decide +kernel
theorem dX10_day_16 : decode cX10_day 16 = .ok (.iconst 1, 1) := by decide +kernel
theorem dX10_day_17 : decode cX10_day 17 = .ok (.invokevirtual 186, 3) := by decide +kernel
theorem dX10_day_20 : decode cX10_day 20 = .ok (.ifCond .eq 5, 3) := by decide +kernel
theorem dX10_day_23 : decode cX10_day 23 = .ok (.iconst 0, 1) := by decide +kernel
theorem dX10_day_24 : decode cX10_day 24 = .ok (.ireturn, 1) := by decide +kernel
theorem dX10_day_25 : decode cX10_day 25 = .ok (.aload_n 0, 1) := by decide +kernel
theorem dX10_day_26 : decode cX10_day 26 = .ok (.dup, 1) := by decide +kernel
theorem dX10_day_27 : decode cX10_day 27 = .ok (.getfield 103, 3) := by decide +kernel
theorem dX10_day_30 : decode cX10_day 30 = .ok (.iconst 1, 1) := by decide +kernel
theorem dX10_day_31 : decode cX10_day 31 = .ok (.iadd, 1) := by decide +kernel
theorem dX10_day_32 : decode cX10_day 32 = .ok (.putfield 103, 3) := by decide +kernel
theorem dX10_day_35 : decode cX10_day 35 = .ok (.aload_n 0, 1) := by decide +kernel
theorem dX10_day_36 : decode cX10_day 36 = .ok (.getfield 26, 3) := by decide +kernel
theorem dX10_day_39 : decode cX10_day 39 = .ok (.invokevirtual 146, 3) := by decide +kernel
theorem dX10_day_42 : decode cX10_day 42 = .ok (.astore_n 1, 1) := by decide +kernel
theorem dX10_day_43 : decode cX10_day 43 = .ok (.aload_n 1, 1) := by decide +kernel
theorem dX10_day_44 : decode cX10_day 44 = .ok (.invokeinterface 150 1, 5) := by decide +kernel
theorem dX10_day_49 : decode cX10_day 49 = .ok (.ifCond .eq 58, 3) := by decide +kernel
theorem dX10_day_52 : decode cX10_day 52 = .ok (.aload_n 1, 1) := by decide +kernel
theorem dX10_day_53 : decode cX10_day 53 = .ok (.invokeinterface 156 1, 5) := by decide +kernel
theorem dX10_day_58 : decode cX10_day 58 = .ok (.checkcast 88, 3) := by decide +kernel
theorem dX10_day_61 : decode cX10_day 61 = .ok (.astore_n 2, 1) := by decide +kernel
theorem dX10_day_62 : decode cX10_day 62 = .ok (.aload_n 2, 1) := by decide +kernel
theorem dX10_day_63 : decode cX10_day 63 = .ok (.getfield 93, 3) := by decide +kernel
theorem dX10_day_66 : decode cX10_day 66 = .ok (.ifCond .ne (-23), 3) := by decide +kernel
theorem dX10_day_69 : decode cX10_day 69 = .ok (.aload_n 2, 1) := by decide +kernel
theorem dX10_day_70 : decode cX10_day 70 = .ok (.getfield 97, 3) := by decide +kernel
theorem dX10_day_73 : decode cX10_day 73 = .ok (.aload_n 0, 1) := by decide +kernel
theorem dX10_day_74 : decode cX10_day 74 = .ok (.getfield 103, 3) := by decide +kernel
theorem dX10_day_77 : decode cX10_day 77 = .ok (.if_icmp .eq 6, 3) := by decide +kernel
theorem dX10_day_80 : decode cX10_day 80 = .ok (.goto (-37), 3) := by decide +kernel
theorem dX10_day_83 : decode cX10_day 83 = .ok (.aload_n 2, 1) := by decide +kernel
theorem dX10_day_84 : decode cX10_day 84 = .ok (.iconst 1, 1) := by decide +kernel
theorem dX10_day_85 : decode cX10_day 85 = .ok (.putfield 93, 3) := by decide +kernel
theorem dX10_day_88 : decode cX10_day 88 = .ok (.aload_n 0, 1) := by decide +kernel
theorem dX10_day_89 : decode cX10_day 89 = .ok (.getfield 23, 3) := by decide +kernel
theorem dX10_day_92 : decode cX10_day 92 = .ok (.aload_n 2, 1) := by decide +kernel
theorem dX10_day_93 : decode cX10_day 93 = .ok (.getfield 90, 3) := by decide +kernel
theorem dX10_day_96 : decode cX10_day 96 = .ok (.dup2, 1) := by decide +kernel
theorem dX10_day_97 : decode cX10_day 97 = .ok (.iaload, 1) := by decide +kernel
theorem dX10_day_98 : decode cX10_day 98 = .ok (.aload_n 2, 1) := by decide +kernel
theorem dX10_day_99 : decode cX10_day 99 = .ok (.getfield 188, 3) := by decide +kernel
theorem dX10_day_102 : decode cX10_day 102 = .ok (.iadd, 1) := by decide +kernel
theorem dX10_day_103 : decode cX10_day 103 = .ok (.iastore, 1) := by decide +kernel
theorem dX10_day_104 : decode cX10_day 104 = .ok (.goto (-61), 3) := by decide +kernel
theorem dX10_day_107 : decode cX10_day 107 = .ok (.iconst 0, 1) := by decide +kernel
theorem dX10_day_108 : decode cX10_day 108 = .ok (.istore_n 1, 1) := by decide +kernel
theorem dX10_day_109 : decode cX10_day 109 = .ok (.aload_n 0, 1) := by decide +kernel
theorem dX10_day_110 : decode cX10_day 110 = .ok (.getfield 32, 3) := by decide +kernel
theorem dX10_day_113 : decode cX10_day 113 = .ok (.invokevirtual 146, 3) := by decide +kernel
theorem dX10_day_116 : decode cX10_day 116 = .ok (.astore_n 2, 1) := by decide +kernel
theorem dX10_day_117 : decode cX10_day 117 = .ok (.aload_n 2, 1) := by decide +kernel
theorem dX10_day_118 : decode cX10_day 118 = .ok (.invokeinterface 150 1, 5) := by decide +kernel
theorem dX10_day_123 : decode cX10_day 123 = .ok (.ifCond .eq 90, 3) := by decide +kernel
theorem dX10_day_126 : decode cX10_day 126 = .ok (.aload_n 2, 1) := by decide +kernel
theorem dX10_day_127 : decode cX10_day 127 = .ok (.invokeinterface 156 1, 5) := by decide +kernel
theorem dX10_day_132 : decode cX10_day 132 = .ok (.checkcast 64, 3) := by decide +kernel
theorem dX10_day_135 : decode cX10_day 135 = .ok (.astore_n 3, 1) := by decide +kernel
theorem dX10_day_136 : decode cX10_day 136 = .ok (.iconst 0, 1) := by decide +kernel
theorem dX10_day_137 : decode cX10_day 137 = .ok (.istore 4, 2) := by decide +kernel
theorem dX10_day_139 : decode cX10_day 139 = .ok (.iload 4, 2) := by decide +kernel
theorem dX10_day_141 : decode cX10_day 141 = .ok (.aload_n 0, 1) := by decide +kernel
theorem dX10_day_142 : decode cX10_day 142 = .ok (.getfield 10, 3) := by decide +kernel
theorem dX10_day_145 : decode cX10_day 145 = .ok (.invokevirtual 43, 3) := by decide +kernel
theorem dX10_day_148 : decode cX10_day 148 = .ok (.if_icmp .ge 62, 3) := by decide +kernel
theorem dX10_day_151 : decode cX10_day 151 = .ok (.aload_n 3, 1) := by decide +kernel
theorem dX10_day_152 : decode cX10_day 152 = .ok (.getfield 140, 3) := by decide +kernel
theorem dX10_day_155 : decode cX10_day 155 = .ok (.ifCond .ne 49, 3) := by decide +kernel
theorem dX10_day_158 : decode cX10_day 158 = .ok (.aload_n 3, 1) := by decide +kernel
theorem dX10_day_159 : decode cX10_day 159 = .ok (.iload 4, 2) := by decide +kernel
theorem dX10_day_161 : decode cX10_day 161 = .ok (.iconst 1, 1) := by decide +kernel
theorem dX10_day_162 : decode cX10_day 162 = .ok (.invokevirtual 63, 3) := by decide +kernel
theorem dX10_day_165 : decode cX10_day 165 = .ok (.ifCond .eq 39, 3) := by decide +kernel
theorem dX10_day_168 : decode cX10_day 168 = .ok (.aload_n 3, 1) := by decide +kernel
theorem dX10_day_169 : decode cX10_day 169 = .ok (.getfield 100, 3) := by decide +kernel
theorem dX10_day_172 : decode cX10_day 172 = .ok (.iload 4, 2) := by decide +kernel
theorem dX10_day_174 : decode cX10_day 174 = .ok (.iaload, 1) := by decide +kernel
theorem dX10_day_175 : decode cX10_day 175 = .ok (.aload_n 3, 1) := by decide +kernel
theorem dX10_day_176 : decode cX10_day 176 = .ok (.getfield 78, 3) := by decide +kernel
theorem dX10_day_179 : decode cX10_day 179 = .ok (.iload 4, 2) := by decide +kernel
theorem dX10_day_181 : decode cX10_day 181 = .ok (.iaload, 1) := by decide +kernel
theorem dX10_day_182 : decode cX10_day 182 = .ok (.iadd, 1) := by decide +kernel
theorem dX10_day_183 : decode cX10_day 183 = .ok (.aload_n 0, 1) := by decide +kernel
theorem dX10_day_184 : decode cX10_day 184 = .ok (.getfield 103, 3) := by decide +kernel
theorem dX10_day_187 : decode cX10_day 187 = .ok (.if_icmp .eq 6, 3) := by decide +kernel
theorem dX10_day_190 : decode cX10_day 190 = .ok (.goto 14, 3) := by decide +kernel
theorem dX10_day_193 : decode cX10_day 193 = .ok (.aload_n 3, 1) := by decide +kernel
theorem dX10_day_194 : decode cX10_day 194 = .ok (.getfield 75, 3) := by decide +kernel
theorem dX10_day_197 : decode cX10_day 197 = .ok (.iload 4, 2) := by decide +kernel
theorem dX10_day_199 : decode cX10_day 199 = .ok (.iconst 2, 1) := by decide +kernel
theorem dX10_day_200 : decode cX10_day 200 = .ok (.iastore, 1) := by decide +kernel
theorem dX10_day_201 : decode cX10_day 201 = .ok (.iinc 1 1, 3) := by decide +kernel
theorem dX10_day_204 : decode cX10_day 204 = .ok (.iinc 4 1, 3) := by decide +kernel
theorem dX10_day_207 : decode cX10_day 207 = .ok (.goto (-68), 3) := by decide +kernel
theorem dX10_day_210 : decode cX10_day 210 = .ok (.goto (-93), 3) := by decide +kernel
theorem dX10_day_213 : decode cX10_day 213 = .ok (.aload_n 0, 1) := by decide +kernel
theorem dX10_day_214 : decode cX10_day 214 = .ok (.getfield 32, 3) := by decide +kernel
theorem dX10_day_217 : decode cX10_day 217 = .ok (.invokevirtual 146, 3) := by decide +kernel
theorem dX10_day_220 : decode cX10_day 220 = .ok (.astore_n 2, 1) := by decide +kernel
theorem dX10_day_221 : decode cX10_day 221 = .ok (.aload_n 2, 1) := by decide +kernel
theorem dX10_day_222 : decode cX10_day 222 = .ok (.invokeinterface 150 1, 5) := by decide +kernel
theorem dX10_day_227 : decode cX10_day 227 = .ok (.ifCond .eq 54, 3) := by decide +kernel
theorem dX10_day_230 : decode cX10_day 230 = .ok (.aload_n 2, 1) := by decide +kernel
theorem dX10_day_231 : decode cX10_day 231 = .ok (.invokeinterface 156 1, 5) := by decide +kernel
theorem dX10_day_236 : decode cX10_day 236 = .ok (.checkcast 64, 3) := by decide +kernel
theorem dX10_day_239 : decode cX10_day 239 = .ok (.astore_n 3, 1) := by decide +kernel
theorem dX10_day_240 : decode cX10_day 240 = .ok (.iconst 0, 1) := by decide +kernel
theorem dX10_day_241 : decode cX10_day 241 = .ok (.istore 4, 2) := by decide +kernel
theorem dX10_day_243 : decode cX10_day 243 = .ok (.iload 4, 2) := by decide +kernel
theorem dX10_day_245 : decode cX10_day 245 = .ok (.aload_n 0, 1) := by decide +kernel
theorem dX10_day_246 : decode cX10_day 246 = .ok (.getfield 10, 3) := by decide +kernel
theorem dX10_day_249 : decode cX10_day 249 = .ok (.invokevirtual 43, 3) := by decide +kernel
theorem dX10_day_252 : decode cX10_day 252 = .ok (.if_icmp .ge 26, 3) := by decide +kernel
theorem dX10_day_255 : decode cX10_day 255 = .ok (.aload_n 0, 1) := by decide +kernel
theorem dX10_day_256 : decode cX10_day 256 = .ok (.aload_n 3, 1) := by decide +kernel
theorem dX10_day_257 : decode cX10_day 257 = .ok (.iload 4, 2) := by decide +kernel
theorem dX10_day_259 : decode cX10_day 259 = .ok (.invokevirtual 191, 3) := by decide +kernel
theorem dX10_day_262 : decode cX10_day 262 = .ok (.ifCond .eq 10, 3) := by decide +kernel
theorem dX10_day_265 : decode cX10_day 265 = .ok (.aload_n 0, 1) := by decide +kernel
theorem dX10_day_266 : decode cX10_day 266 = .ok (.aload_n 3, 1) := by decide +kernel
theorem dX10_day_267 : decode cX10_day 267 = .ok (.iload 4, 2) := by decide +kernel
theorem dX10_day_269 : decode cX10_day 269 = .ok (.invokevirtual 194, 3) := by decide +kernel
theorem dX10_day_272 : decode cX10_day 272 = .ok (.iinc 4 1, 3) := by decide +kernel
theorem dX10_day_275 : decode cX10_day 275 = .ok (.goto (-32), 3) := by decide +kernel
theorem dX10_day_278 : decode cX10_day 278 = .ok (.goto (-57), 3) := by decide +kernel
theorem dX10_day_281 : decode cX10_day 281 = .ok (.aload_n 0, 1) := by decide +kernel
theorem dX10_day_282 : decode cX10_day 282 = .ok (.getfield 32, 3) := by decide +kernel
theorem dX10_day_285 : decode cX10_day 285 = .ok (.invokevirtual 146, 3) := by decide +kernel
theorem dX10_day_288 : decode cX10_day 288 = .ok (.astore_n 2, 1) := by decide +kernel
theorem dX10_day_289 : decode cX10_day 289 = .ok (.aload_n 2, 1) := by decide +kernel
theorem dX10_day_290 : decode cX10_day 290 = .ok (.invokeinterface 150 1, 5) := by decide +kernel
theorem dX10_day_295 : decode cX10_day 295 = .ok (.ifCond .eq 79, 3) := by decide +kernel
theorem dX10_day_298 : decode cX10_day 298 = .ok (.aload_n 2, 1) := by decide +kernel
theorem dX10_day_299 : decode cX10_day 299 = .ok (.invokeinterface 156 1, 5) := by decide +kernel
theorem dX10_day_304 : decode cX10_day 304 = .ok (.checkcast 64, 3) := by decide +kernel
theorem dX10_day_307 : decode cX10_day 307 = .ok (.astore_n 3, 1) := by decide +kernel
theorem dX10_day_308 : decode cX10_day 308 = .ok (.iconst 0, 1) := by decide +kernel
theorem dX10_day_309 : decode cX10_day 309 = .ok (.istore 4, 2) := by decide +kernel
theorem dX10_day_311 : decode cX10_day 311 = .ok (.iload 4, 2) := by decide +kernel
theorem dX10_day_313 : decode cX10_day 313 = .ok (.aload_n 0, 1) := by decide +kernel
theorem dX10_day_314 : decode cX10_day 314 = .ok (.getfield 10, 3) := by decide +kernel
theorem dX10_day_317 : decode cX10_day 317 = .ok (.invokevirtual 43, 3) := by decide +kernel
theorem dX10_day_320 : decode cX10_day 320 = .ok (.if_icmp .ge 51, 3) := by decide +kernel
theorem dX10_day_323 : decode cX10_day 323 = .ok (.aload_n 3, 1) := by decide +kernel
theorem dX10_day_324 : decode cX10_day 324 = .ok (.iload 4, 2) := by decide +kernel
theorem dX10_day_326 : decode cX10_day 326 = .ok (.iconst 0, 1) := by decide +kernel
theorem dX10_day_327 : decode cX10_day 327 = .ok (.invokevirtual 63, 3) := by decide +kernel
theorem dX10_day_330 : decode cX10_day 330 = .ok (.ifCond .eq 35, 3) := by decide +kernel
theorem dX10_day_333 : decode cX10_day 333 = .ok (.aload_n 0, 1) := by decide +kernel
theorem dX10_day_334 : decode cX10_day 334 = .ok (.aload_n 3, 1) := by decide +kernel
theorem dX10_day_335 : decode cX10_day 335 = .ok (.iload 4, 2) := by decide +kernel
theorem dX10_day_337 : decode cX10_day 337 = .ok (.invokevirtual 180, 3) := by decide +kernel
theorem dX10_day_340 : decode cX10_day 340 = .ok (.ifCond .ne 6, 3) := by decide +kernel
theorem dX10_day_343 : decode cX10_day 343 = .ok (.goto 22, 3) := by decide +kernel
theorem dX10_day_346 : decode cX10_day 346 = .ok (.aload_n 3, 1) := by decide +kernel
theorem dX10_day_347 : decode cX10_day 347 = .ok (.getfield 126, 3) := by decide +kernel
theorem dX10_day_350 : decode cX10_day 350 = .ok (.iload 4, 2) := by decide +kernel
theorem dX10_day_352 : decode cX10_day 352 = .ok (.iconst (-1), 1) := by decide +kernel
theorem dX10_day_353 : decode cX10_day 353 = .ok (.iastore, 1) := by decide +kernel
theorem dX10_day_354 : decode cX10_day 354 = .ok (.aload_n 3, 1) := by decide +kernel
theorem dX10_day_355 : decode cX10_day 355 = .ok (.getfield 198, 3) := by decide +kernel
theorem dX10_day_358 : decode cX10_day 358 = .ok (.iload 4, 2) := by decide +kernel
theorem dX10_day_360 : decode cX10_day 360 = .ok (.dup2, 1) := by decide +kernel
theorem dX10_day_361 : decode cX10_day 361 = .ok (.iaload, 1) := by decide +kernel
theorem dX10_day_362 : decode cX10_day 362 = .ok (.iconst 1, 1) := by decide +kernel
theorem dX10_day_363 : decode cX10_day 363 = .ok (.iadd, 1) := by decide +kernel
theorem dX10_day_364 : decode cX10_day 364 = .ok (.iastore, 1) := by decide +kernel
theorem dX10_day_365 : decode cX10_day 365 = .ok (.iinc 4 1, 3) := by decide +kernel
theorem dX10_day_368 : decode cX10_day 368 = .ok (.goto (-57), 3) := by decide +kernel
theorem dX10_day_371 : decode cX10_day 371 = .ok (.goto (-82), 3) := by decide +kernel
theorem dX10_day_374 : decode cX10_day 374 = .ok (.aload_n 0, 1) := by decide +kernel
theorem dX10_day_375 : decode cX10_day 375 = .ok (.invokevirtual 201, 3) := by decide +kernel
theorem dX10_day_378 : decode cX10_day 378 = .ok (.aload_n 0, 1) := by decide +kernel
theorem dX10_day_379 : decode cX10_day 379 = .ok (.getfield 32, 3) := by decide +kernel
theorem dX10_day_382 : decode cX10_day 382 = .ok (.invokevirtual 146, 3) := by decide +kernel
theorem dX10_day_385 : decode cX10_day 385 = .ok (.astore_n 2, 1) := by decide +kernel
theorem dX10_day_386 : decode cX10_day 386 = .ok (.aload_n 2, 1) := by decide +kernel
theorem dX10_day_387 : decode cX10_day 387 = .ok (.invokeinterface 150 1, 5) := by decide +kernel
theorem dX10_day_392 : decode cX10_day 392 = .ok (.ifCond .eq 28, 3) := by decide +kernel
theorem dX10_day_395 : decode cX10_day 395 = .ok (.aload_n 2, 1) := by decide +kernel
theorem dX10_day_396 : decode cX10_day 396 = .ok (.invokeinterface 156 1, 5) := by decide +kernel
theorem dX10_day_401 : decode cX10_day 401 = .ok (.checkcast 64, 3) := by decide +kernel
theorem dX10_day_404 : decode cX10_day 404 = .ok (.astore_n 3, 1) := by decide +kernel
theorem dX10_day_405 : decode cX10_day 405 = .ok (.aload_n 3, 1) := by decide +kernel
theorem dX10_day_406 : decode cX10_day 406 = .ok (.getfield 140, 3) := by decide +kernel
theorem dX10_day_409 : decode cX10_day 409 = .ok (.ifCond .eq 8, 3) := by decide +kernel
theorem dX10_day_412 : decode cX10_day 412 = .ok (.aload_n 0, 1) := by decide +kernel
theorem dX10_day_413 : decode cX10_day 413 = .ok (.aload_n 3, 1) := by decide +kernel
theorem dX10_day_414 : decode cX10_day 414 = .ok (.invokevirtual 204, 3) := by decide +kernel
theorem dX10_day_417 : decode cX10_day 417 = .ok (.goto (-31), 3) := by decide +kernel
theorem dX10_day_420 : decode cX10_day 420 = .ok (.iload_n 1, 1) := by decide +kernel
theorem dX10_day_421 : decode cX10_day 421 = .ok (.ireturn, 1) := by decide +kernel
theorem dX10_step_0 : decode cX10_step 0 = .ok (.iload_n 1, 1) := by decide +kernel
theorem dX10_step_1 : decode cX10_step 1 = .ok (.iconst 0, 1) := by decide +kernel
theorem dX10_step_2 : decode cX10_step 2 = .ok (.iconst 3, 1) := by decide +kernel
theorem dX10_step_3 : decode cX10_step 3 = .ok (.invokestatic 47, 3) := by decide +kernel
theorem dX10_step_6 : decode cX10_step 6 = .ok (.ifCond .eq 52, 3) := by decide +kernel
theorem dX10_step_9 : decode cX10_step 9 = .ok (.iload_n 2, 1) := by decide +kernel
theorem dX10_step_10 : decode cX10_step 10 = .ok (.iconst 1, 1) := by decide +kernel
theorem dX10_step_11 : decode cX10_step 11 = .ok (.bipush 9, 2) := by decide +kernel
theorem dX10_step_13 : decode cX10_step 13 = .ok (.invokestatic 47, 3) := by decide +kernel
theorem dX10_step_16 : decode cX10_step 16 = .ok (.ifCond .eq 42, 3) := by decide +kernel
theorem dX10_step_19 : decode cX10_step 19 = .ok (.aload_n 0, 1) := by decide +kernel
theorem dX10_step_20 : decode cX10_step 20 = .ok (.iload_n 3, 1) := by decide +kernel
theorem dX10_step_21 : decode cX10_step 21 = .ok (.invokevirtual 208, 3) := by decide +kernel
theorem dX10_step_24 : decode cX10_step 24 = .ok (.ifCond .ne 34, 3) := by decide +kernel
theorem dX10_step_27 : decode cX10_step 27 = .ok (.iload_n 1, 1) := by decide +kernel
theorem dX10_step_28 : decode cX10_step 28 = .ok (.ifCond .ne 15, 3) := by decide +kernel
theorem dX10_step_31 : decode cX10_step 31 = .ok (.iload 4, 2) := by decide +kernel
theorem dX10_step_33 : decode cX10_step 33 = .ok (.iconst 0, 1) := by decide +kernel
theorem dX10_step_34 : decode cX10_step 34 = .ok (.sipush 255, 3) := by decide +kernel
theorem dX10_step_37 : decode cX10_step 37 = .ok (.invokestatic 47, 3) := by decide +kernel
theorem dX10_step_40 : decode cX10_step 40 = .ok (.ifCond .eq 18, 3) := by decide +kernel
theorem dX10_step_43 : decode cX10_step 43 = .ok (.iload_n 1, 1) := by decide +kernel
theorem dX10_step_44 : decode cX10_step 44 = .ok (.iconst 1, 1) := by decide +kernel
theorem dX10_step_45 : decode cX10_step 45 = .ok (.if_icmp .ne 17, 3) := by decide +kernel
theorem dX10_step_48 : decode cX10_step 48 = .ok (.iload 4, 2) := by decide +kernel
theorem dX10_step_50 : decode cX10_step 50 = .ok (.iconst 0, 1) := by decide +kernel
theorem dX10_step_51 : decode cX10_step 51 = .ok (.iconst 3, 1) := by decide +kernel
theorem dX10_step_52 : decode cX10_step 52 = .ok (.invokestatic 47, 3) := by decide +kernel
theorem dX10_step_55 : decode cX10_step 55 = .ok (.ifCond .ne 7, 3) := by decide +kernel
theorem dX10_step_58 : decode cX10_step 58 = .ok (.iconst 1, 1) := by decide +kernel
theorem dX10_step_59 : decode cX10_step 59 = .ok (.goto 4, 3) := by decide +kernel
theorem dX10_step_62 : decode cX10_step 62 = .ok (.iconst 0, 1) := by decide +kernel
theorem dX10_step_63 : decode cX10_step 63 = .ok (.istore 5, 2) := by decide +kernel
theorem dX10_step_65 : decode cX10_step 65 = .ok (.aload_n 0, 1) := by decide +kernel
theorem dX10_step_66 : decode cX10_step 66 = .ok (.iload 5, 2) := by decide +kernel
theorem dX10_step_68 : decode cX10_step 68 = .ok (.iconst 1, 1) := by decide +kernel
theorem dX10_step_69 : decode cX10_step 69 = .ok (.invokevirtual 186, 3) := by decide +kernel
theorem dX10_step_72 : decode cX10_step 72 = .ok (.ifCond .ne 28, 3) := by decide +kernel
theorem dX10_step_75 : decode cX10_step 75 = .ok (.aload_n 0, 1) := by decide +kernel
theorem dX10_step_76 : decode cX10_step 76 = .ok (.aload_n 0, 1) := by decide +kernel
theorem dX10_step_77 : decode cX10_step 77 = .ok (.getfield 10, 3) := by decide +kernel
theorem dX10_step_80 : decode cX10_step 80 = .ok (.invokevirtual 43, 3) := by decide +kernel
theorem dX10_step_83 : decode cX10_step 83 = .ok (.bipush 12, 2) := by decide +kernel
theorem dX10_step_85 : decode cX10_step 85 = .ok (.if_icmp .ne 7, 3) := by decide +kernel
theorem dX10_step_88 : decode cX10_step 88 = .ok (.iconst 1, 1) := by decide +kernel
theorem dX10_step_89 : decode cX10_step 89 = .ok (.goto 4, 3) := by decide +kernel
theorem dX10_step_92 : decode cX10_step 92 = .ok (.iconst 0, 1) := by decide +kernel
theorem dX10_step_93 : decode cX10_step 93 = .ok (.iconst 2, 1) := by decide +kernel
theorem dX10_step_94 : decode cX10_step 94 = .ok (.invokevirtual 39, 3) := by decide +kernel
theorem dX10_step_97 : decode cX10_step 97 = .ok (.ifCond .eq 5, 3) := by decide +kernel
theorem dX10_step_100 : decode cX10_step 100 = .ok (.iconst 0, 1) := by decide +kernel
theorem dX10_step_101 : decode cX10_step 101 = .ok (.ireturn, 1) := by decide +kernel
theorem dX10_step_102 : decode cX10_step 102 = .ok (.aload_n 0, 1) := by decide +kernel
theorem dX10_step_103 : decode cX10_step 103 = .ok (.getfield 10, 3) := by decide +kernel
theorem dX10_step_106 : decode cX10_step 106 = .ok (.new 55, 3) := by decide +kernel
theorem dX10_step_109 : decode cX10_step 109 = .ok (.dup, 1) := by decide +kernel
theorem dX10_step_110 : decode cX10_step 110 = .ok (.iload_n 1, 1) := by decide +kernel
theorem dX10_step_111 : decode cX10_step 111 = .ok (.iload_n 2, 1) := by decide +kernel
theorem dX10_step_112 : decode cX10_step 112 = .ok (.iload_n 3, 1) := by decide +kernel
theorem dX10_step_113 : decode cX10_step 113 = .ok (.iload 4, 2) := by decide +kernel
theorem dX10_step_115 : decode cX10_step 115 = .ok (.invokespecial 211, 3) := by decide +kernel
theorem dX10_step_118 : decode cX10_step 118 = .ok (.invokevirtual 214, 3) := by decide +kernel
theorem dX10_step_121 : decode cX10_step 121 = .ok (.pop, 1) := by decide +kernel
theorem dX10_step_122 : decode cX10_step 122 = .ok (.aload_n 0, 1) := by decide +kernel
theorem dX10_step_123 : decode cX10_step 123 = .ok (.getfield 10, 3) := by decide +kernel
theorem dX10_step_126 : decode cX10_step 126 = .ok (.invokevirtual 43, 3) := by decide +kernel
theorem dX10_step_129 : decode cX10_step 129 = .ok (.iconst 1, 1) := by decide +kernel
theorem dX10_step_130 : decode cX10_step 130 = .ok (.isub, 1) := by decide +kernel
theorem dX10_step_131 : decode cX10_step 131 = .ok (.ireturn, 1) := by decide +kernel
theorem dX10_isNoRole_0 : decode cX10_isNoRole 0 = .ok (.iload_n 0, 1) := by decide +kernel
theorem dX10_isNoRole_1 : decode cX10_isNoRole 1 = .ok (.iconst 0, 1) := by decide +kernel
theorem dX10_isNoRole_2 : decode cX10_isNoRole 2 = .ok (.iconst 3, 1) := by decide +kernel
theorem dX10_isNoRole_3 : decode cX10_isNoRole 3 = .ok (.invokestatic 47, 3) := by decide +kernel
theorem dX10_isNoRole_6 : decode cX10_isNoRole 6 = .ok (.ifCond .ne 7, 3) := by decide +kernel
theorem dX10_isNoRole_9 : decode cX10_isNoRole 9 = .ok (.iconst 1, 1) := by decide +kernel
theorem dX10_isNoRole_10 : decode cX10_isNoRole 10 = .ok (.goto 4, 3) := by decide +kernel
theorem dX10_isNoRole_13 : decode cX10_isNoRole 13 = .ok (.iconst 0, 1) := by decide +kernel
theorem dX10_isNoRole_14 : decode cX10_isNoRole 14 = .ok (.ireturn, 1) := by decide +kernel
theorem dX10_role_0 : decode cX10_role 0 = .ok (.aload_n 0, 1) := by decide +kernel
theorem dX10_role_1 : decode cX10_role 1 = .ok (.iload_n 1, 1) := by decide +kernel
theorem dX10_role_2 : decode cX10_role 2 = .ok (.invokestatic 218, 3) := by decide +kernel
theorem dX10_role_5 : decode cX10_role 5 = .ok (.iconst 1, 1) := by decide +kernel
theorem dX10_role_6 : decode cX10_role 6 = .ok (.invokevirtual 186, 3) := by decide +kernel
theorem dX10_role_9 : decode cX10_role 9 = .ok (.ifCond .ne 16, 3) := by decide +kernel
theorem dX10_role_12 : decode cX10_role 12 = .ok (.aload_n 0, 1) := by decide +kernel
theorem dX10_role_13 : decode cX10_role 13 = .ok (.aload_n 0, 1) := by decide +kernel
theorem dX10_role_14 : decode cX10_role 14 = .ok (.iload_n 2, 1) := by decide +kernel
theorem dX10_role_15 : decode cX10_role 15 = .ok (.invokevirtual 208, 3) := by decide +kernel
theorem dX10_role_18 : decode cX10_role 18 = .ok (.iconst 2, 1) := by decide +kernel
theorem dX10_role_19 : decode cX10_role 19 = .ok (.invokevirtual 39, 3) := by decide +kernel
theorem dX10_role_22 : decode cX10_role 22 = .ok (.ifCond .eq 5, 3) := by decide +kernel
theorem dX10_role_25 : decode cX10_role 25 = .ok (.iconst 0, 1) := by decide +kernel
theorem dX10_role_26 : decode cX10_role 26 = .ok (.ireturn, 1) := by decide +kernel
theorem dX10_role_27 : decode cX10_role 27 = .ok (.aload_n 0, 1) := by decide +kernel
theorem dX10_role_28 : decode cX10_role 28 = .ok (.getfield 16, 3) := by decide +kernel
theorem dX10_role_31 : decode cX10_role 31 = .ok (.iload_n 1, 1) := by decide +kernel
theorem dX10_role_32 : decode cX10_role 32 = .ok (.iaload, 1) := by decide +kernel
theorem dX10_role_33 : decode cX10_role 33 = .ok (.istore_n 3, 1) := by decide +kernel
theorem dX10_role_34 : decode cX10_role 34 = .ok (.aload_n 0, 1) := by decide +kernel
theorem dX10_role_35 : decode cX10_role 35 = .ok (.getfield 16, 3) := by decide +kernel
theorem dX10_role_38 : decode cX10_role 38 = .ok (.iload_n 1, 1) := by decide +kernel
theorem dX10_role_39 : decode cX10_role 39 = .ok (.iload_n 2, 1) := by decide +kernel
theorem dX10_role_40 : decode cX10_role 40 = .ok (.iastore, 1) := by decide +kernel
theorem dX10_role_41 : decode cX10_role 41 = .ok (.iload_n 3, 1) := by decide +kernel
theorem dX10_role_42 : decode cX10_role 42 = .ok (.ireturn, 1) := by decide +kernel
theorem dX10_right_0 : decode cX10_right 0 = .ok (.aload_n 0, 1) := by decide +kernel
theorem dX10_right_1 : decode cX10_right 1 = .ok (.iload_n 1, 1) := by decide +kernel
theorem dX10_right_2 : decode cX10_right 2 = .ok (.iconst 1, 1) := by decide +kernel
theorem dX10_right_3 : decode cX10_right 3 = .ok (.if_icmp .lt 11, 3) := by decide +kernel
theorem dX10_right_6 : decode cX10_right 6 = .ok (.aload_n 0, 1) := by decide +kernel
theorem dX10_right_7 : decode cX10_right 7 = .ok (.iload_n 1, 1) := by decide +kernel
theorem dX10_right_8 : decode cX10_right 8 = .ok (.invokevirtual 208, 3) := by decide +kernel
theorem dX10_right_11 : decode cX10_right 11 = .ok (.ifCond .eq 7, 3) := by decide +kernel
theorem dX10_right_14 : decode cX10_right 14 = .ok (.iconst 1, 1) := by decide +kernel
theorem dX10_right_15 : decode cX10_right 15 = .ok (.goto 4, 3) := by decide +kernel
theorem dX10_right_18 : decode cX10_right 18 = .ok (.iconst 0, 1) := by decide +kernel
theorem dX10_right_19 : decode cX10_right 19 = .ok (.iconst 1, 1) := by decide +kernel
theorem dX10_right_20 : decode cX10_right 20 = .ok (.invokevirtual 186, 3) := by decide +kernel
theorem dX10_right_23 : decode cX10_right 23 = .ok (.ifCond .ne 28, 3) := by decide +kernel
theorem dX10_right_26 : decode cX10_right 26 = .ok (.aload_n 0, 1) := by decide +kernel
theorem dX10_right_27 : decode cX10_right 27 = .ok (.aload_n 0, 1) := by decide +kernel
theorem dX10_right_28 : decode cX10_right 28 = .ok (.getfield 20, 3) := by decide +kernel
theorem dX10_right_31 : decode cX10_right 31 = .ok (.invokevirtual 43, 3) := by decide +kernel
theorem dX10_right_34 : decode cX10_right 34 = .ok (.bipush 6, 2) := by decide +kernel
theorem dX10_right_36 : decode cX10_right 36 = .ok (.if_icmp .ne 7, 3) := by decide +kernel
theorem dX10_right_39 : decode cX10_right 39 = .ok (.iconst 1, 1) := by decide +kernel
theorem dX10_right_40 : decode cX10_right 40 = .ok (.goto 4, 3) := by decide +kernel
theorem dX10_right_43 : decode cX10_right 43 = .ok (.iconst 0, 1) := by decide +kernel
theorem dX10_right_44 : decode cX10_right 44 = .ok (.iconst 2, 1) := by decide +kernel
theorem dX10_right_45 : decode cX10_right 45 = .ok (.invokevirtual 39, 3) := by decide +kernel
theorem dX10_right_48 : decode cX10_right 48 = .ok (.ifCond .eq 5, 3) := by decide +kernel
theorem dX10_right_51 : decode cX10_right 51 = .ok (.iconst 0, 1) := by decide +kernel
theorem dX10_right_52 : decode cX10_right 52 = .ok (.ireturn, 1) := by decide +kernel
theorem dX10_right_53 : decode cX10_right 53 = .ok (.aload_n 0, 1) := by decide +kernel
theorem dX10_right_54 : decode cX10_right 54 = .ok (.getfield 20, 3) := by decide +kernel
theorem dX10_right_57 : decode cX10_right 57 = .ok (.iload_n 1, 1) := by decide +kernel
theorem dX10_right_58 : decode cX10_right 58 = .ok (.invokestatic 221, 3) := by decide +kernel
theorem dX10_right_61 : decode cX10_right 61 = .ok (.invokevirtual 214, 3) := by decide +kernel
theorem dX10_right_64 : decode cX10_right 64 = .ok (.pop, 1) := by decide +kernel
theorem dX10_right_65 : decode cX10_right 65 = .ok (.aload_n 0, 1) := by decide +kernel
theorem dX10_right_66 : decode cX10_right 66 = .ok (.getfield 20, 3) := by decide +kernel
theorem dX10_right_69 : decode cX10_right 69 = .ok (.invokevirtual 43, 3) := by decide +kernel
theorem dX10_right_72 : decode cX10_right 72 = .ok (.iconst 1, 1) := by decide +kernel
theorem dX10_right_73 : decode cX10_right 73 = .ok (.isub, 1) := by decide +kernel
theorem dX10_right_74 : decode cX10_right 74 = .ok (.ireturn, 1) := by decide +kernel
theorem dX10_isNoItem_0 : decode cX10_isNoItem 0 = .ok (.iload_n 0, 1) := by decide +kernel
theorem dX10_isNoItem_1 : decode cX10_isNoItem 1 = .ok (.iconst 0, 1) := by decide +kernel
theorem dX10_isNoItem_2 : decode cX10_isNoItem 2 = .ok (.iconst 3, 1) := by decide +kernel
theorem dX10_isNoItem_3 : decode cX10_isNoItem 3 = .ok (.invokestatic 47, 3) := by decide +kernel
theorem dX10_isNoItem_6 : decode cX10_isNoItem 6 = .ok (.ifCond .ne 7, 3) := by decide +kernel
theorem dX10_isNoItem_9 : decode cX10_isNoItem 9 = .ok (.iconst 1, 1) := by decide +kernel
theorem dX10_isNoItem_10 : decode cX10_isNoItem 10 = .ok (.goto 4, 3) := by decide +kernel
theorem dX10_isNoItem_13 : decode cX10_isNoItem 13 = .ok (.iconst 0, 1) := by decide +kernel
theorem dX10_isNoItem_14 : decode cX10_isNoItem 14 = .ok (.ireturn, 1) := by decide +kernel
theorem dX10_stock_0 : decode cX10_stock 0 = .ok (.aload_n 0, 1) := by decide +kernel
theorem dX10_stock_1 : decode cX10_stock 1 = .ok (.iload_n 1, 1) := by decide +kernel
theorem dX10_stock_2 : decode cX10_stock 2 = .ok (.invokestatic 225, 3) := by decide +kernel
theorem dX10_stock_5 : decode cX10_stock 5 = .ok (.iconst 1, 1) := by decide +kernel
theorem dX10_stock_6 : decode cX10_stock 6 = .ok (.invokevirtual 186, 3) := by decide +kernel
theorem dX10_stock_9 : decode cX10_stock 9 = .ok (.ifCond .ne 26, 3) := by decide +kernel
theorem dX10_stock_12 : decode cX10_stock 12 = .ok (.aload_n 0, 1) := by decide +kernel
theorem dX10_stock_13 : decode cX10_stock 13 = .ok (.iload_n 2, 1) := by decide +kernel
theorem dX10_stock_14 : decode cX10_stock 14 = .ok (.iconst 1, 1) := by decide +kernel
theorem dX10_stock_15 : decode cX10_stock 15 = .ok (.bipush 20, 2) := by decide +kernel
theorem dX10_stock_17 : decode cX10_stock 17 = .ok (.invokestatic 47, 3) := by decide +kernel
theorem dX10_stock_20 : decode cX10_stock 20 = .ok (.ifCond .ne 7, 3) := by decide +kernel
theorem dX10_stock_23 : decode cX10_stock 23 = .ok (.iconst 1, 1) := by decide +kernel
theorem dX10_stock_24 : decode cX10_stock 24 = .ok (.goto 4, 3) := by decide +kernel
theorem dX10_stock_27 : decode cX10_stock 27 = .ok (.iconst 0, 1) := by decide +kernel
theorem dX10_stock_28 : decode cX10_stock 28 = .ok (.iconst 2, 1) := by decide +kernel
theorem dX10_stock_29 : decode cX10_stock 29 = .ok (.invokevirtual 39, 3) := by decide +kernel
theorem dX10_stock_32 : decode cX10_stock 32 = .ok (.ifCond .eq 5, 3) := by decide +kernel
theorem dX10_stock_35 : decode cX10_stock 35 = .ok (.iconst 0, 1) := by decide +kernel
theorem dX10_stock_36 : decode cX10_stock 36 = .ok (.ireturn, 1) := by decide +kernel
theorem dX10_stock_37 : decode cX10_stock 37 = .ok (.aload_n 0, 1) := by decide +kernel
theorem dX10_stock_38 : decode cX10_stock 38 = .ok (.getfield 23, 3) := by decide +kernel
theorem dX10_stock_41 : decode cX10_stock 41 = .ok (.iload_n 1, 1) := by decide +kernel
theorem dX10_stock_42 : decode cX10_stock 42 = .ok (.dup2, 1) := by decide +kernel
theorem dX10_stock_43 : decode cX10_stock 43 = .ok (.iaload, 1) := by decide +kernel
theorem dX10_stock_44 : decode cX10_stock 44 = .ok (.iload_n 2, 1) := by decide +kernel
theorem dX10_stock_45 : decode cX10_stock 45 = .ok (.iadd, 1) := by decide +kernel
theorem dX10_stock_46 : decode cX10_stock 46 = .ok (.iastore, 1) := by decide +kernel
theorem dX10_stock_47 : decode cX10_stock 47 = .ok (.aload_n 0, 1) := by decide +kernel
theorem dX10_stock_48 : decode cX10_stock 48 = .ok (.getfield 23, 3) := by decide +kernel
theorem dX10_stock_51 : decode cX10_stock 51 = .ok (.iload_n 1, 1) := by decide +kernel
theorem dX10_stock_52 : decode cX10_stock 52 = .ok (.iaload, 1) := by decide +kernel
theorem dX10_stock_53 : decode cX10_stock 53 = .ok (.ireturn, 1) := by decide +kernel
theorem dX10_isNoDay_0 : decode cX10_isNoDay 0 = .ok (.iload_n 1, 1) := by decide +kernel
theorem dX10_isNoDay_1 : decode cX10_isNoDay 1 = .ok (.aload_n 0, 1) := by decide +kernel
theorem dX10_isNoDay_2 : decode cX10_isNoDay 2 = .ok (.getfield 103, 3) := by decide +kernel
theorem dX10_isNoDay_5 : decode cX10_isNoDay 5 = .ok (.iconst 1, 1) := by decide +kernel
theorem dX10_isNoDay_6 : decode cX10_isNoDay 6 = .ok (.iadd, 1) := by decide +kernel
theorem dX10_isNoDay_7 : decode cX10_isNoDay 7 = .ok (.sipush 199, 3) := by decide +kernel
theorem dX10_isNoDay_10 : decode cX10_isNoDay 10 = .ok (.invokestatic 47, 3) := by decide +kernel
theorem dX10_isNoDay_13 : decode cX10_isNoDay 13 = .ok (.ifCond .ne 7, 3) := by decide +kernel
theorem dX10_isNoDay_16 : decode cX10_isNoDay 16 = .ok (.iconst 1, 1) := by decide +kernel
theorem dX10_isNoDay_17 : decode cX10_isNoDay 17 = .ok (.goto 4, 3) := by decide +kernel
theorem dX10_isNoDay_20 : decode cX10_isNoDay 20 = .ok (.iconst 0, 1) := by decide +kernel
theorem dX10_isNoDay_21 : decode cX10_isNoDay 21 = .ok (.ireturn, 1) := by decide +kernel
theorem dX10_order_0 : decode cX10_order 0 = .ok (.aload_n 0, 1) := by decide +kernel
theorem dX10_order_1 : decode cX10_order 1 = .ok (.iload_n 1, 1) := by decide +kernel
theorem dX10_order_2 : decode cX10_order 2 = .ok (.invokestatic 225, 3) := by decide +kernel
theorem dX10_order_5 : decode cX10_order 5 = .ok (.iconst 1, 1) := by decide +kernel
theorem dX10_order_6 : decode cX10_order 6 = .ok (.invokevirtual 186, 3) := by decide +kernel
theorem dX10_order_9 : decode cX10_order 9 = .ok (.ifCond .ne 59, 3) := by decide +kernel
theorem dX10_order_12 : decode cX10_order 12 = .ok (.aload_n 0, 1) := by decide +kernel
theorem dX10_order_13 : decode cX10_order 13 = .ok (.iload_n 2, 1) := by decide +kernel
theorem dX10_order_14 : decode cX10_order 14 = .ok (.iconst 1, 1) := by decide +kernel
theorem dX10_order_15 : decode cX10_order 15 = .ok (.bipush 20, 2) := by decide +kernel
theorem dX10_order_17 : decode cX10_order 17 = .ok (.invokestatic 47, 3) := by decide +kernel
theorem dX10_order_20 : decode cX10_order 20 = .ok (.ifCond .eq 11, 3) := by decide +kernel
theorem dX10_order_23 : decode cX10_order 23 = .ok (.aload_n 0, 1) := by decide +kernel
theorem dX10_order_24 : decode cX10_order 24 = .ok (.iload_n 3, 1) := by decide +kernel
theorem dX10_order_25 : decode cX10_order 25 = .ok (.invokevirtual 228, 3) := by decide +kernel
theorem dX10_order_28 : decode cX10_order 28 = .ok (.ifCond .eq 7, 3) := by decide +kernel
theorem dX10_order_31 : decode cX10_order 31 = .ok (.iconst 1, 1) := by decide +kernel
theorem dX10_order_32 : decode cX10_order 32 = .ok (.goto 4, 3) := by decide +kernel
theorem dX10_order_35 : decode cX10_order 35 = .ok (.iconst 0, 1) := by decide +kernel
theorem dX10_order_36 : decode cX10_order 36 = .ok (.iconst 2, 1) := by decide +kernel
theorem dX10_order_37 : decode cX10_order 37 = .ok (.invokevirtual 39, 3) := by decide +kernel
theorem dX10_order_40 : decode cX10_order 40 = .ok (.ifCond .ne 28, 3) := by decide +kernel
theorem dX10_order_43 : decode cX10_order 43 = .ok (.aload_n 0, 1) := by decide +kernel
theorem dX10_order_44 : decode cX10_order 44 = .ok (.aload_n 0, 1) := by decide +kernel
theorem dX10_order_45 : decode cX10_order 45 = .ok (.getfield 26, 3) := by decide +kernel
theorem dX10_order_48 : decode cX10_order 48 = .ok (.invokevirtual 43, 3) := by decide +kernel
theorem dX10_order_51 : decode cX10_order 51 = .ok (.bipush 20, 2) := by decide +kernel
theorem dX10_order_53 : decode cX10_order 53 = .ok (.if_icmp .ne 7, 3) := by decide +kernel
theorem dX10_order_56 : decode cX10_order 56 = .ok (.iconst 1, 1) := by decide +kernel
theorem dX10_order_57 : decode cX10_order 57 = .ok (.goto 4, 3) := by decide +kernel
theorem dX10_order_60 : decode cX10_order 60 = .ok (.iconst 0, 1) := by decide +kernel
theorem dX10_order_61 : decode cX10_order 61 = .ok (.iconst 3, 1) := by decide +kernel
theorem dX10_order_62 : decode cX10_order 62 = .ok (.invokevirtual 39, 3) := by decide +kernel
theorem dX10_order_65 : decode cX10_order 65 = .ok (.ifCond .eq 5, 3) := by decide +kernel
theorem dX10_order_68 : decode cX10_order 68 = .ok (.iconst 0, 1) := by decide +kernel
theorem dX10_order_69 : decode cX10_order 69 = .ok (.ireturn, 1) := by decide +kernel
theorem dX10_order_70 : decode cX10_order 70 = .ok (.aload_n 0, 1) := by decide +kernel
theorem dX10_order_71 : decode cX10_order 71 = .ok (.getfield 26, 3) := by decide +kernel
theorem dX10_order_74 : decode cX10_order 74 = .ok (.new 88, 3) := by decide +kernel
theorem dX10_order_77 : decode cX10_order 77 = .ok (.dup, 1) := by decide +kernel
theorem dX10_order_78 : decode cX10_order 78 = .ok (.iload_n 1, 1) := by decide +kernel
theorem dX10_order_79 : decode cX10_order 79 = .ok (.iload_n 2, 1) := by decide +kernel
theorem dX10_order_80 : decode cX10_order 80 = .ok (.iload_n 3, 1) := by decide +kernel
theorem dX10_order_81 : decode cX10_order 81 = .ok (.invokespecial 231, 3) := by decide +kernel
theorem dX10_order_84 : decode cX10_order 84 = .ok (.invokevirtual 214, 3) := by decide +kernel
theorem dX10_order_87 : decode cX10_order 87 = .ok (.pop, 1) := by decide +kernel
theorem dX10_order_88 : decode cX10_order 88 = .ok (.aload_n 0, 1) := by decide +kernel
theorem dX10_order_89 : decode cX10_order 89 = .ok (.getfield 26, 3) := by decide +kernel
theorem dX10_order_92 : decode cX10_order 92 = .ok (.invokevirtual 43, 3) := by decide +kernel
theorem dX10_order_95 : decode cX10_order 95 = .ok (.iconst 1, 1) := by decide +kernel
theorem dX10_order_96 : decode cX10_order 96 = .ok (.isub, 1) := by decide +kernel
theorem dX10_order_97 : decode cX10_order 97 = .ok (.ireturn, 1) := by decide +kernel
theorem dX10_isNoDelay_0 : decode cX10_isNoDelay 0 = .ok (.aload_n 0, 1) := by decide +kernel
theorem dX10_isNoDelay_1 : decode cX10_isNoDelay 1 = .ok (.iload_n 1, 1) := by decide +kernel
theorem dX10_isNoDelay_2 : decode cX10_isNoDelay 2 = .ok (.iconst 0, 1) := by decide +kernel
theorem dX10_isNoDelay_3 : decode cX10_isNoDelay 3 = .ok (.aload_n 0, 1) := by decide +kernel
theorem dX10_isNoDelay_4 : decode cX10_isNoDelay 4 = .ok (.getfield 26, 3) := by decide +kernel
theorem dX10_isNoDelay_7 : decode cX10_isNoDelay 7 = .ok (.invokevirtual 43, 3) := by decide +kernel
theorem dX10_isNoDelay_10 : decode cX10_isNoDelay 10 = .ok (.iconst 1, 1) := by decide +kernel
theorem dX10_isNoDelay_11 : decode cX10_isNoDelay 11 = .ok (.isub, 1) := by decide +kernel
theorem dX10_isNoDelay_12 : decode cX10_isNoDelay 12 = .ok (.invokestatic 47, 3) := by decide +kernel
theorem dX10_isNoDelay_15 : decode cX10_isNoDelay 15 = .ok (.ifCond .ne 7, 3) := by decide +kernel
theorem dX10_isNoDelay_18 : decode cX10_isNoDelay 18 = .ok (.iconst 1, 1) := by decide +kernel
theorem dX10_isNoDelay_19 : decode cX10_isNoDelay 19 = .ok (.goto 4, 3) := by decide +kernel
theorem dX10_isNoDelay_22 : decode cX10_isNoDelay 22 = .ok (.iconst 0, 1) := by decide +kernel
theorem dX10_isNoDelay_23 : decode cX10_isNoDelay 23 = .ok (.iconst 1, 1) := by decide +kernel
theorem dX10_isNoDelay_24 : decode cX10_isNoDelay 24 = .ok (.invokevirtual 186, 3) := by decide +kernel
theorem dX10_isNoDelay_27 : decode cX10_isNoDelay 27 = .ok (.ifCond .ne 48, 3) := by decide +kernel
theorem dX10_isNoDelay_30 : decode cX10_isNoDelay 30 = .ok (.aload_n 0, 1) := by decide +kernel
theorem dX10_isNoDelay_31 : decode cX10_isNoDelay 31 = .ok (.iload_n 2, 1) := by decide +kernel
theorem dX10_isNoDelay_32 : decode cX10_isNoDelay 32 = .ok (.iconst 1, 1) := by decide +kernel
theorem dX10_isNoDelay_33 : decode cX10_isNoDelay 33 = .ok (.bipush 30, 2) := by decide +kernel
theorem dX10_isNoDelay_35 : decode cX10_isNoDelay 35 = .ok (.invokestatic 47, 3) := by decide +kernel
theorem dX10_isNoDelay_38 : decode cX10_isNoDelay 38 = .ok (.ifCond .ne 7, 3) := by decide +kernel
theorem dX10_isNoDelay_41 : decode cX10_isNoDelay 41 = .ok (.iconst 1, 1) := by decide +kernel
theorem dX10_isNoDelay_42 : decode cX10_isNoDelay 42 = .ok (.goto 4, 3) := by decide +kernel
theorem dX10_isNoDelay_45 : decode cX10_isNoDelay 45 = .ok (.iconst 0, 1) := by decide +kernel
theorem dX10_isNoDelay_46 : decode cX10_isNoDelay 46 = .ok (.iconst 2, 1) := by decide +kernel
theorem dX10_isNoDelay_47 : decode cX10_isNoDelay 47 = .ok (.invokevirtual 39, 3) := by decide +kernel
theorem dX10_isNoDelay_50 : decode cX10_isNoDelay 50 = .ok (.ifCond .ne 25, 3) := by decide +kernel
theorem dX10_isNoDelay_53 : decode cX10_isNoDelay 53 = .ok (.aload_n 0, 1) := by decide +kernel
theorem dX10_isNoDelay_54 : decode cX10_isNoDelay 54 = .ok (.aload_n 0, 1) := by decide +kernel
theorem dX10_isNoDelay_55 : decode cX10_isNoDelay 55 = .ok (.getfield 26, 3) := by decide +kernel
theorem dX10_isNoDelay_58 : decode cX10_isNoDelay 58 = .ok (.iload_n 1, 1) := by decide +kernel
theorem dX10_isNoDelay_59 : decode cX10_isNoDelay 59 = .ok (.invokevirtual 51, 3) := by decide +kernel
theorem dX10_isNoDelay_62 : decode cX10_isNoDelay 62 = .ok (.checkcast 88, 3) := by decide +kernel
theorem dX10_isNoDelay_65 : decode cX10_isNoDelay 65 = .ok (.getfield 93, 3) := by decide +kernel
theorem dX10_isNoDelay_68 : decode cX10_isNoDelay 68 = .ok (.iconst 3, 1) := by decide +kernel
theorem dX10_isNoDelay_69 : decode cX10_isNoDelay 69 = .ok (.invokevirtual 39, 3) := by decide +kernel
theorem dX10_isNoDelay_72 : decode cX10_isNoDelay 72 = .ok (.ifCond .eq 7, 3) := by decide +kernel
theorem dX10_isNoDelay_75 : decode cX10_isNoDelay 75 = .ok (.iconst 1, 1) := by decide +kernel
theorem dX10_isNoDelay_76 : decode cX10_isNoDelay 76 = .ok (.goto 4, 3) := by decide +kernel
theorem dX10_isNoDelay_79 : decode cX10_isNoDelay 79 = .ok (.iconst 0, 1) := by decide +kernel
theorem dX10_isNoDelay_80 : decode cX10_isNoDelay 80 = .ok (.ireturn, 1) := by decide +kernel
theorem dX10_late_0 : decode cX10_late 0 = .ok (.aload_n 0, 1) := by decide +kernel
theorem dX10_late_1 : decode cX10_late 1 = .ok (.iload_n 1, 1) := by decide +kernel
theorem dX10_late_2 : decode cX10_late 2 = .ok (.iload_n 2, 1) := by decide +kernel
theorem dX10_late_3 : decode cX10_late 3 = .ok (.invokevirtual 234, 3) := by decide +kernel
theorem dX10_late_6 : decode cX10_late 6 = .ok (.ifCond .eq 5, 3) := by decide +kernel
theorem dX10_late_9 : decode cX10_late 9 = .ok (.iconst 0, 1) := by decide +kernel
theorem dX10_late_10 : decode cX10_late 10 = .ok (.ireturn, 1) := by decide +kernel
theorem dX10_late_11 : decode cX10_late 11 = .ok (.aload_n 0, 1) := by decide +kernel
theorem dX10_late_12 : decode cX10_late 12 = .ok (.getfield 26, 3) := by decide +kernel
theorem dX10_late_15 : decode cX10_late 15 = .ok (.iload_n 1, 1) := by decide +kernel
theorem dX10_late_16 : decode cX10_late 16 = .ok (.invokevirtual 51, 3) := by decide +kernel
theorem dX10_late_19 : decode cX10_late 19 = .ok (.checkcast 88, 3) := by decide +kernel
theorem dX10_late_22 : decode cX10_late 22 = .ok (.dup, 1) := by decide +kernel
theorem dX10_late_23 : decode cX10_late 23 = .ok (.getfield 97, 3) := by decide +kernel
theorem dX10_late_26 : decode cX10_late 26 = .ok (.iload_n 2, 1) := by decide +kernel
theorem dX10_late_27 : decode cX10_late 27 = .ok (.iadd, 1) := by decide +kernel
theorem dX10_late_28 : decode cX10_late 28 = .ok (.putfield 97, 3) := by decide +kernel
theorem dX10_late_31 : decode cX10_late 31 = .ok (.aload_n 0, 1) := by decide +kernel
theorem dX10_late_32 : decode cX10_late 32 = .ok (.getfield 26, 3) := by decide +kernel
theorem dX10_late_35 : decode cX10_late 35 = .ok (.iload_n 1, 1) := by decide +kernel
theorem dX10_late_36 : decode cX10_late 36 = .ok (.invokevirtual 51, 3) := by decide +kernel
theorem dX10_late_39 : decode cX10_late 39 = .ok (.checkcast 88, 3) := by decide +kernel
theorem dX10_late_42 : decode cX10_late 42 = .ok (.getfield 97, 3) := by decide +kernel
theorem dX10_late_45 : decode cX10_late 45 = .ok (.ireturn, 1) := by decide +kernel
theorem dX10_session_0 : decode cX10_session 0 = .ok (.aload_n 0, 1) := by decide +kernel
theorem dX10_session_1 : decode cX10_session 1 = .ok (.iload_n 1, 1) := by decide +kernel
theorem dX10_session_2 : decode cX10_session 2 = .ok (.iconst 0, 1) := by decide +kernel
theorem dX10_session_3 : decode cX10_session 3 = .ok (.aload_n 0, 1) := by decide +kernel
theorem dX10_session_4 : decode cX10_session 4 = .ok (.getfield 10, 3) := by decide +kernel
theorem dX10_session_7 : decode cX10_session 7 = .ok (.invokevirtual 43, 3) := by decide +kernel
theorem dX10_session_10 : decode cX10_session 10 = .ok (.iconst 1, 1) := by decide +kernel
theorem dX10_session_11 : decode cX10_session 11 = .ok (.isub, 1) := by decide +kernel
theorem dX10_session_12 : decode cX10_session 12 = .ok (.invokestatic 47, 3) := by decide +kernel
theorem dX10_session_15 : decode cX10_session 15 = .ok (.ifCond .ne 7, 3) := by decide +kernel
theorem dX10_session_18 : decode cX10_session 18 = .ok (.iconst 1, 1) := by decide +kernel
theorem dX10_session_19 : decode cX10_session 19 = .ok (.goto 4, 3) := by decide +kernel
theorem dX10_session_22 : decode cX10_session 22 = .ok (.iconst 0, 1) := by decide +kernel
theorem dX10_session_23 : decode cX10_session 23 = .ok (.iconst 1, 1) := by decide +kernel
theorem dX10_session_24 : decode cX10_session 24 = .ok (.invokevirtual 186, 3) := by decide +kernel
theorem dX10_session_27 : decode cX10_session 27 = .ok (.ifCond .ne 77, 3) := by decide +kernel
theorem dX10_session_30 : decode cX10_session 30 = .ok (.aload_n 0, 1) := by decide +kernel
theorem dX10_session_31 : decode cX10_session 31 = .ok (.aload_n 0, 1) := by decide +kernel
theorem dX10_session_32 : decode cX10_session 32 = .ok (.getfield 10, 3) := by decide +kernel
theorem dX10_session_35 : decode cX10_session 35 = .ok (.iload_n 1, 1) := by decide +kernel
theorem dX10_session_36 : decode cX10_session 36 = .ok (.invokevirtual 51, 3) := by decide +kernel
theorem dX10_session_39 : decode cX10_session 39 = .ok (.checkcast 55, 3) := by decide +kernel
theorem dX10_session_42 : decode cX10_session 42 = .ok (.getfield 60, 3) := by decide +kernel
theorem dX10_session_45 : decode cX10_session 45 = .ok (.iconst 2, 1) := by decide +kernel
theorem dX10_session_46 : decode cX10_session 46 = .ok (.if_icmp .ne 21, 3) := by decide +kernel
theorem dX10_session_49 : decode cX10_session 49 = .ok (.aload_n 0, 1) := by decide +kernel
theorem dX10_session_50 : decode cX10_session 50 = .ok (.iload_n 2, 1) := by decide +kernel
theorem dX10_session_51 : decode cX10_session 51 = .ok (.invokevirtual 228, 3) := by decide +kernel
theorem dX10_session_54 : decode cX10_session 54 = .ok (.ifCond .ne 13, 3) := by decide +kernel
theorem dX10_session_57 : decode cX10_session 57 = .ok (.iload_n 3, 1) := by decide +kernel
theorem dX10_session_58 : decode cX10_session 58 = .ok (.iconst 1, 1) := by decide +kernel
theorem dX10_session_59 : decode cX10_session 59 = .ok (.bipush 9, 2) := by decide +kernel
theorem dX10_session_61 : decode cX10_session 61 = .ok (.invokestatic 47, 3) := by decide +kernel
theorem dX10_session_64 : decode cX10_session 64 = .ok (.ifCond .ne 7, 3) := by decide +kernel
theorem dX10_session_67 : decode cX10_session 67 = .ok (.iconst 1, 1) := by decide +kernel
theorem dX10_session_68 : decode cX10_session 68 = .ok (.goto 4, 3) := by decide +kernel
theorem dX10_session_71 : decode cX10_session 71 = .ok (.iconst 0, 1) := by decide +kernel
theorem dX10_session_72 : decode cX10_session 72 = .ok (.iconst 2, 1) := by decide +kernel
theorem dX10_session_73 : decode cX10_session 73 = .ok (.invokevirtual 39, 3) := by decide +kernel
theorem dX10_session_76 : decode cX10_session 76 = .ok (.ifCond .ne 28, 3) := by decide +kernel
theorem dX10_session_79 : decode cX10_session 79 = .ok (.aload_n 0, 1) := by decide +kernel
theorem dX10_session_80 : decode cX10_session 80 = .ok (.aload_n 0, 1) := by decide +kernel
theorem dX10_session_81 : decode cX10_session 81 = .ok (.getfield 29, 3) := by decide +kernel
theorem dX10_session_84 : decode cX10_session 84 = .ok (.invokevirtual 43, 3) := by decide +kernel
theorem dX10_session_87 : decode cX10_session 87 = .ok (.bipush 20, 2) := by decide +kernel
theorem dX10_session_89 : decode cX10_session 89 = .ok (.if_icmp .ne 7, 3) := by decide +kernel
theorem dX10_session_92 : decode cX10_session 92 = .ok (.iconst 1, 1) := by decide +kernel
theorem dX10_session_93 : decode cX10_session 93 = .ok (.goto 4, 3) := by decide +kernel
theorem dX10_session_96 : decode cX10_session 96 = .ok (.iconst 0, 1) := by decide +kernel
theorem dX10_session_97 : decode cX10_session 97 = .ok (.iconst 3, 1) := by decide +kernel
theorem dX10_session_98 : decode cX10_session 98 = .ok (.invokevirtual 39, 3) := by decide +kernel
theorem dX10_session_101 : decode cX10_session 101 = .ok (.ifCond .eq 5, 3) := by decide +kernel
theorem dX10_session_104 : decode cX10_session 104 = .ok (.iconst 0, 1) := by decide +kernel
theorem dX10_session_105 : decode cX10_session 105 = .ok (.ireturn, 1) := by decide +kernel
theorem dX10_session_106 : decode cX10_session 106 = .ok (.aload_n 0, 1) := by decide +kernel
theorem dX10_session_107 : decode cX10_session 107 = .ok (.getfield 29, 3) := by decide +kernel
theorem dX10_session_110 : decode cX10_session 110 = .ok (.new 129, 3) := by decide +kernel
theorem dX10_session_113 : decode cX10_session 113 = .ok (.dup, 1) := by decide +kernel
theorem dX10_session_114 : decode cX10_session 114 = .ok (.iload_n 1, 1) := by decide +kernel
theorem dX10_session_115 : decode cX10_session 115 = .ok (.iload_n 2, 1) := by decide +kernel
theorem dX10_session_116 : decode cX10_session 116 = .ok (.iload_n 3, 1) := by decide +kernel
theorem dX10_session_117 : decode cX10_session 117 = .ok (.invokespecial 237, 3) := by decide +kernel
theorem dX10_session_120 : decode cX10_session 120 = .ok (.invokevirtual 214, 3) := by decide +kernel
theorem dX10_session_123 : decode cX10_session 123 = .ok (.pop, 1) := by decide +kernel
theorem dX10_session_124 : decode cX10_session 124 = .ok (.aload_n 0, 1) := by decide +kernel
theorem dX10_session_125 : decode cX10_session 125 = .ok (.invokevirtual 201, 3) := by decide +kernel
theorem dX10_session_128 : decode cX10_session 128 = .ok (.aload_n 0, 1) := by decide +kernel
theorem dX10_session_129 : decode cX10_session 129 = .ok (.getfield 29, 3) := by decide +kernel
theorem dX10_session_132 : decode cX10_session 132 = .ok (.invokevirtual 43, 3) := by decide +kernel
theorem dX10_session_135 : decode cX10_session 135 = .ok (.iconst 1, 1) := by decide +kernel
theorem dX10_session_136 : decode cX10_session 136 = .ok (.isub, 1) := by decide +kernel
theorem dX10_session_137 : decode cX10_session 137 = .ok (.ireturn, 1) := by decide +kernel
theorem dX10_ofSessionNow_0 : decode cX10_ofSessionNow 0 = .ok (.aload_n 0, 1) := by decide +kernel
theorem dX10_ofSessionNow_1 : decode cX10_ofSessionNow 1 = .ok (.getfield 29, 3) := by decide +kernel
theorem dX10_ofSessionNow_4 : decode cX10_ofSessionNow 4 = .ok (.iload_n 1, 1) := by decide +kernel
theorem dX10_ofSessionNow_5 : decode cX10_ofSessionNow 5 = .ok (.invokevirtual 51, 3) := by decide +kernel
theorem dX10_ofSessionNow_8 : decode cX10_ofSessionNow 8 = .ok (.checkcast 129, 3) := by decide +kernel
theorem dX10_ofSessionNow_11 : decode cX10_ofSessionNow 11 = .ok (.astore_n 3, 1) := by decide +kernel
theorem dX10_ofSessionNow_12 : decode cX10_ofSessionNow 12 = .ok (.iconst 4, 1) := by decide +kernel
theorem dX10_ofSessionNow_13 : decode cX10_ofSessionNow 13 = .ok (.newarray .int, 2) := by decide +kernel
theorem dX10_ofSessionNow_15 : decode cX10_ofSessionNow 15 = .ok (.dup, 1) := by decide +kernel
theorem dX10_ofSessionNow_16 : decode cX10_ofSessionNow 16 = .ok (.iconst 0, 1) := by decide +kernel
theorem dX10_ofSessionNow_17 : decode cX10_ofSessionNow 17 = .ok (.aload_n 3, 1) := by decide +kernel
theorem dX10_ofSessionNow_18 : decode cX10_ofSessionNow 18 = .ok (.getfield 160, 3) := by decide +kernel
theorem dX10_ofSessionNow_21 : decode cX10_ofSessionNow 21 = .ok (.iastore, 1) := by decide +kernel
theorem dX10_ofSessionNow_22 : decode cX10_ofSessionNow 22 = .ok (.dup, 1) := by decide +kernel
theorem dX10_ofSessionNow_23 : decode cX10_ofSessionNow 23 = .ok (.iconst 1, 1) := by decide +kernel
theorem dX10_ofSessionNow_24 : decode cX10_ofSessionNow 24 = .ok (.aload_n 3, 1) := by decide +kernel
theorem dX10_ofSessionNow_25 : decode cX10_ofSessionNow 25 = .ok (.getfield 131, 3) := by decide +kernel
theorem dX10_ofSessionNow_28 : decode cX10_ofSessionNow 28 = .ok (.iastore, 1) := by decide +kernel
theorem dX10_ofSessionNow_29 : decode cX10_ofSessionNow 29 = .ok (.dup, 1) := by decide +kernel
theorem dX10_ofSessionNow_30 : decode cX10_ofSessionNow 30 = .ok (.iconst 2, 1) := by decide +kernel
theorem dX10_ofSessionNow_31 : decode cX10_ofSessionNow 31 = .ok (.aload_n 3, 1) := by decide +kernel
theorem dX10_ofSessionNow_32 : decode cX10_ofSessionNow 32 = .ok (.getfield 166, 3) := by decide +kernel
theorem dX10_ofSessionNow_35 : decode cX10_ofSessionNow 35 = .ok (.iastore, 1) := by decide +kernel
theorem dX10_ofSessionNow_36 : decode cX10_ofSessionNow 36 = .ok (.dup, 1) := by decide +kernel
theorem dX10_ofSessionNow_37 : decode cX10_ofSessionNow 37 = .ok (.iconst 3, 1) := by decide +kernel
theorem dX10_ofSessionNow_38 : decode cX10_ofSessionNow 38 = .ok (.aload_n 0, 1) := by decide +kernel
theorem dX10_ofSessionNow_39 : decode cX10_ofSessionNow 39 = .ok (.iload_n 1, 1) := by decide +kernel
theorem dX10_ofSessionNow_40 : decode cX10_ofSessionNow 40 = .ok (.invokevirtual 163, 3) := by decide +kernel
theorem dX10_ofSessionNow_43 : decode cX10_ofSessionNow 43 = .ok (.iastore, 1) := by decide +kernel
theorem dX10_ofSessionNow_44 : decode cX10_ofSessionNow 44 = .ok (.astore 4, 2) := by decide +kernel
theorem dX10_ofSessionNow_46 : decode cX10_ofSessionNow 46 = .ok (.aload 4, 2) := by decide +kernel
theorem dX10_ofSessionNow_48 : decode cX10_ofSessionNow 48 = .ok (.iload_n 2, 1) := by decide +kernel
theorem dX10_ofSessionNow_49 : decode cX10_ofSessionNow 49 = .ok (.iaload, 1) := by decide +kernel
theorem dX10_ofSessionNow_50 : decode cX10_ofSessionNow 50 = .ok (.ireturn, 1) := by decide +kernel
theorem dX10_ofSession_0 : decode cX10_ofSession 0 = .ok (.aload_n 0, 1) := by decide +kernel
theorem dX10_ofSession_1 : decode cX10_ofSession 1 = .ok (.iload_n 1, 1) := by decide +kernel
theorem dX10_ofSession_2 : decode cX10_ofSession 2 = .ok (.iconst 0, 1) := by decide +kernel
theorem dX10_ofSession_3 : decode cX10_ofSession 3 = .ok (.aload_n 0, 1) := by decide +kernel
theorem dX10_ofSession_4 : decode cX10_ofSession 4 = .ok (.getfield 29, 3) := by decide +kernel
theorem dX10_ofSession_7 : decode cX10_ofSession 7 = .ok (.invokevirtual 43, 3) := by decide +kernel
theorem dX10_ofSession_10 : decode cX10_ofSession 10 = .ok (.iconst 1, 1) := by decide +kernel
theorem dX10_ofSession_11 : decode cX10_ofSession 11 = .ok (.isub, 1) := by decide +kernel
theorem dX10_ofSession_12 : decode cX10_ofSession 12 = .ok (.invokestatic 47, 3) := by decide +kernel
theorem dX10_ofSession_15 : decode cX10_ofSession 15 = .ok (.ifCond .ne 7, 3) := by decide +kernel
theorem dX10_ofSession_18 : decode cX10_ofSession 18 = .ok (.iconst 1, 1) := by decide +kernel
theorem dX10_ofSession_19 : decode cX10_ofSession 19 = .ok (.goto 4, 3) := by decide +kernel
theorem dX10_ofSession_22 : decode cX10_ofSession 22 = .ok (.iconst 0, 1) := by decide +kernel
theorem dX10_ofSession_23 : decode cX10_ofSession 23 = .ok (.iconst 1, 1) := by decide +kernel
theorem dX10_ofSession_24 : decode cX10_ofSession 24 = .ok (.invokevirtual 186, 3) := by decide +kernel
theorem dX10_ofSession_27 : decode cX10_ofSession 27 = .ok (.ifCond .ne 25, 3) := by decide +kernel
theorem dX10_ofSession_30 : decode cX10_ofSession 30 = .ok (.aload_n 0, 1) := by decide +kernel
theorem dX10_ofSession_31 : decode cX10_ofSession 31 = .ok (.iload_n 2, 1) := by decide +kernel
theorem dX10_ofSession_32 : decode cX10_ofSession 32 = .ok (.iconst 0, 1) := by decide +kernel
theorem dX10_ofSession_33 : decode cX10_ofSession 33 = .ok (.iconst 3, 1) := by decide +kernel
theorem dX10_ofSession_34 : decode cX10_ofSession 34 = .ok (.invokestatic 47, 3) := by decide +kernel
theorem dX10_ofSession_37 : decode cX10_ofSession 37 = .ok (.ifCond .ne 7, 3) := by decide +kernel
theorem dX10_ofSession_40 : decode cX10_ofSession 40 = .ok (.iconst 1, 1) := by decide +kernel
theorem dX10_ofSession_41 : decode cX10_ofSession 41 = .ok (.goto 4, 3) := by decide +kernel
theorem dX10_ofSession_44 : decode cX10_ofSession 44 = .ok (.iconst 0, 1) := by decide +kernel
theorem dX10_ofSession_45 : decode cX10_ofSession 45 = .ok (.iconst 2, 1) := by decide +kernel
theorem dX10_ofSession_46 : decode cX10_ofSession 46 = .ok (.invokevirtual 39, 3) := by decide +kernel
theorem dX10_ofSession_49 : decode cX10_ofSession 49 = .ok (.ifCond .eq 7, 3) := by decide +kernel
theorem dX10_ofSession_52 : decode cX10_ofSession 52 = .ok (.iconst 0, 1) := by decide +kernel
theorem dX10_ofSession_53 : decode cX10_ofSession 53 = .ok (.goto 9, 3) := by decide +kernel
theorem dX10_ofSession_56 : decode cX10_ofSession 56 = .ok (.aload_n 0, 1) := by decide +kernel
theorem dX10_ofSession_57 : decode cX10_ofSession 57 = .ok (.iload_n 1, 1) := by decide +kernel
theorem dX10_ofSession_58 : decode cX10_ofSession 58 = .ok (.iload_n 2, 1) := by decide +kernel
theorem dX10_ofSession_59 : decode cX10_ofSession 59 = .ok (.invokevirtual 238, 3) := by decide +kernel
theorem dX10_ofSession_62 : decode cX10_ofSession 62 = .ok (.ireturn, 1) := by decide +kernel
theorem dX10_ofItemNow_0 : decode cX10_ofItemNow 0 = .ok (.iload_n 2, 1) := by decide +kernel
theorem dX10_ofItemNow_1 : decode cX10_ofItemNow 1 = .ok (.ifCond .ne 10, 3) := by decide +kernel
theorem dX10_ofItemNow_4 : decode cX10_ofItemNow 4 = .ok (.aload_n 0, 1) := by decide +kernel
theorem dX10_ofItemNow_5 : decode cX10_ofItemNow 5 = .ok (.getfield 23, 3) := by decide +kernel
theorem dX10_ofItemNow_8 : decode cX10_ofItemNow 8 = .ok (.iload_n 1, 1) := by decide +kernel
theorem dX10_ofItemNow_9 : decode cX10_ofItemNow 9 = .ok (.iaload, 1) := by decide +kernel
theorem dX10_ofItemNow_10 : decode cX10_ofItemNow 10 = .ok (.ireturn, 1) := by decide +kernel
theorem dX10_ofItemNow_11 : decode cX10_ofItemNow 11 = .ok (.iload_n 2, 1) := by decide +kernel
theorem dX10_ofItemNow_12 : decode cX10_ofItemNow 12 = .ok (.iconst 2, 1) := by decide +kernel
theorem dX10_ofItemNow_13 : decode cX10_ofItemNow 13 = .ok (.if_icmp .ne 9, 3) := by decide +kernel
theorem dX10_ofItemNow_16 : decode cX10_ofItemNow 16 = .ok (.aload_n 0, 1) := by decide +kernel
theorem dX10_ofItemNow_17 : decode cX10_ofItemNow 17 = .ok (.iload_n 1, 1) := by decide +kernel
theorem dX10_ofItemNow_18 : decode cX10_ofItemNow 18 = .ok (.invokevirtual 132, 3) := by decide +kernel
theorem dX10_ofItemNow_21 : decode cX10_ofItemNow 21 = .ok (.ireturn, 1) := by decide +kernel
theorem dX10_ofItemNow_22 : decode cX10_ofItemNow 22 = .ok (.iconst 0, 1) := by decide +kernel
theorem dX10_ofItemNow_23 : decode cX10_ofItemNow 23 = .ok (.istore_n 3, 1) := by decide +kernel
theorem dX10_ofItemNow_24 : decode cX10_ofItemNow 24 = .ok (.iload_n 2, 1) := by decide +kernel
theorem dX10_ofItemNow_25 : decode cX10_ofItemNow 25 = .ok (.iconst 1, 1) := by decide +kernel
theorem dX10_ofItemNow_26 : decode cX10_ofItemNow 26 = .ok (.if_icmp .ne 68, 3) := by decide +kernel
theorem dX10_ofItemNow_29 : decode cX10_ofItemNow 29 = .ok (.aload_n 0, 1) := by decide +kernel
theorem dX10_ofItemNow_30 : decode cX10_ofItemNow 30 = .ok (.getfield 26, 3) := by decide +kernel
theorem dX10_ofItemNow_33 : decode cX10_ofItemNow 33 = .ok (.invokevirtual 146, 3) := by decide +kernel
theorem dX10_ofItemNow_36 : decode cX10_ofItemNow 36 = .ok (.astore 4, 2) := by decide +kernel
theorem dX10_ofItemNow_38 : decode cX10_ofItemNow 38 = .ok (.aload 4, 2) := by decide +kernel
theorem dX10_ofItemNow_40 : decode cX10_ofItemNow 40 = .ok (.invokeinterface 150 1, 5) := by decide +kernel
theorem dX10_ofItemNow_45 : decode cX10_ofItemNow 45 = .ok (.ifCond .eq 47, 3) := by decide +kernel
theorem dX10_ofItemNow_48 : decode cX10_ofItemNow 48 = .ok (.aload 4, 2) := by decide +kernel
theorem dX10_ofItemNow_50 : decode cX10_ofItemNow 50 = .ok (.invokeinterface 156 1, 5) := by decide +kernel
theorem dX10_ofItemNow_55 : decode cX10_ofItemNow 55 = .ok (.checkcast 88, 3) := by decide +kernel
theorem dX10_ofItemNow_58 : decode cX10_ofItemNow 58 = .ok (.astore 5, 2) := by decide +kernel
theorem dX10_ofItemNow_60 : decode cX10_ofItemNow 60 = .ok (.iload_n 3, 1) := by decide +kernel
theorem dX10_ofItemNow_61 : decode cX10_ofItemNow 61 = .ok (.aload 5, 2) := by decide +kernel
theorem dX10_ofItemNow_63 : decode cX10_ofItemNow 63 = .ok (.getfield 90, 3) := by decide +kernel
theorem dX10_ofItemNow_66 : decode cX10_ofItemNow 66 = .ok (.iload_n 1, 1) := by decide +kernel
theorem dX10_ofItemNow_67 : decode cX10_ofItemNow 67 = .ok (.if_icmp .ne 19, 3) := by decide +kernel
theorem dX10_ofItemNow_70 : decode cX10_ofItemNow 70 = .ok (.aload 5, 2) := by decide +kernel
theorem dX10_ofItemNow_72 : decode cX10_ofItemNow 72 = .ok (.getfield 93, 3) := by decide +kernel
theorem dX10_ofItemNow_75 : decode cX10_ofItemNow 75 = .ok (.ifCond .ne 11, 3) := by decide +kernel
theorem dX10_ofItemNow_78 : decode cX10_ofItemNow 78 = .ok (.aload 5, 2) := by decide +kernel
theorem dX10_ofItemNow_80 : decode cX10_ofItemNow 80 = .ok (.getfield 188, 3) := by decide +kernel
theorem dX10_ofItemNow_83 : decode cX10_ofItemNow 83 = .ok (.goto 4, 3) := by decide +kernel
theorem dX10_ofItemNow_86 : decode cX10_ofItemNow 86 = .ok (.iconst 0, 1) := by decide +kernel
theorem dX10_ofItemNow_87 : decode cX10_ofItemNow 87 = .ok (.iadd, 1) := by decide +kernel
theorem dX10_ofItemNow_88 : decode cX10_ofItemNow 88 = .ok (.istore_n 3, 1) := by decide +kernel
theorem dX10_ofItemNow_89 : decode cX10_ofItemNow 89 = .ok (.goto (-51), 3) := by decide +kernel
theorem dX10_ofItemNow_92 : decode cX10_ofItemNow 92 = .ok (.iload_n 3, 1) := by decide +kernel
theorem dX10_ofItemNow_93 : decode cX10_ofItemNow 93 = .ok (.ireturn, 1) := by decide +kernel
theorem dX10_ofItemNow_94 : decode cX10_ofItemNow 94 = .ok (.aload_n 0, 1) := by decide +kernel
theorem dX10_ofItemNow_95 : decode cX10_ofItemNow 95 = .ok (.getfield 32, 3) := by decide +kernel
theorem dX10_ofItemNow_98 : decode cX10_ofItemNow 98 = .ok (.invokevirtual 146, 3) := by decide +kernel
theorem dX10_ofItemNow_101 : decode cX10_ofItemNow 101 = .ok (.astore 4, 2) := by decide +kernel
theorem dX10_ofItemNow_103 : decode cX10_ofItemNow 103 = .ok (.aload 4, 2) := by decide +kernel
theorem dX10_ofItemNow_105 : decode cX10_ofItemNow 105 = .ok (.invokeinterface 150 1, 5) := by decide +kernel
theorem dX10_ofItemNow_110 : decode cX10_ofItemNow 110 = .ok (.ifCond .eq 96, 3) := by decide +kernel
theorem dX10_ofItemNow_113 : decode cX10_ofItemNow 113 = .ok (.aload 4, 2) := by decide +kernel
theorem dX10_ofItemNow_115 : decode cX10_ofItemNow 115 = .ok (.invokeinterface 156 1, 5) := by decide +kernel
theorem dX10_ofItemNow_120 : decode cX10_ofItemNow 120 = .ok (.checkcast 64, 3) := by decide +kernel
theorem dX10_ofItemNow_123 : decode cX10_ofItemNow 123 = .ok (.astore 5, 2) := by decide +kernel
theorem dX10_ofItemNow_125 : decode cX10_ofItemNow 125 = .ok (.iconst 0, 1) := by decide +kernel
theorem dX10_ofItemNow_126 : decode cX10_ofItemNow 126 = .ok (.istore 6, 2) := by decide +kernel
theorem dX10_ofItemNow_128 : decode cX10_ofItemNow 128 = .ok (.iload 6, 2) := by decide +kernel
theorem dX10_ofItemNow_130 : decode cX10_ofItemNow 130 = .ok (.aload_n 0, 1) := by decide +kernel
theorem dX10_ofItemNow_131 : decode cX10_ofItemNow 131 = .ok (.getfield 10, 3) := by decide +kernel
theorem dX10_ofItemNow_134 : decode cX10_ofItemNow 134 = .ok (.invokevirtual 43, 3) := by decide +kernel
theorem dX10_ofItemNow_137 : decode cX10_ofItemNow 137 = .ok (.if_icmp .ge 66, 3) := by decide +kernel
theorem dX10_ofItemNow_140 : decode cX10_ofItemNow 140 = .ok (.iload_n 3, 1) := by decide +kernel
theorem dX10_ofItemNow_141 : decode cX10_ofItemNow 141 = .ok (.aload_n 0, 1) := by decide +kernel
theorem dX10_ofItemNow_142 : decode cX10_ofItemNow 142 = .ok (.getfield 10, 3) := by decide +kernel
theorem dX10_ofItemNow_145 : decode cX10_ofItemNow 145 = .ok (.iload 6, 2) := by decide +kernel
theorem dX10_ofItemNow_147 : decode cX10_ofItemNow 147 = .ok (.invokevirtual 51, 3) := by decide +kernel
theorem dX10_ofItemNow_150 : decode cX10_ofItemNow 150 = .ok (.checkcast 55, 3) := by decide +kernel
theorem dX10_ofItemNow_153 : decode cX10_ofItemNow 153 = .ok (.getfield 60, 3) := by decide +kernel
theorem dX10_ofItemNow_156 : decode cX10_ofItemNow 156 = .ok (.iconst 1, 1) := by decide +kernel
theorem dX10_ofItemNow_157 : decode cX10_ofItemNow 157 = .ok (.if_icmp .ne 37, 3) := by decide +kernel
theorem dX10_ofItemNow_160 : decode cX10_ofItemNow 160 = .ok (.aload_n 0, 1) := by decide +kernel
theorem dX10_ofItemNow_161 : decode cX10_ofItemNow 161 = .ok (.getfield 10, 3) := by decide +kernel
theorem dX10_ofItemNow_164 : decode cX10_ofItemNow 164 = .ok (.iload 6, 2) := by decide +kernel
theorem dX10_ofItemNow_166 : decode cX10_ofItemNow 166 = .ok (.invokevirtual 51, 3) := by decide +kernel
theorem dX10_ofItemNow_169 : decode cX10_ofItemNow 169 = .ok (.checkcast 55, 3) := by decide +kernel
theorem dX10_ofItemNow_172 : decode cX10_ofItemNow 172 = .ok (.getfield 57, 3) := by decide +kernel
theorem dX10_ofItemNow_175 : decode cX10_ofItemNow 175 = .ok (.iload_n 1, 1) := by decide +kernel
theorem dX10_ofItemNow_176 : decode cX10_ofItemNow 176 = .ok (.if_icmp .ne 18, 3) := by decide +kernel
theorem dX10_ofItemNow_179 : decode cX10_ofItemNow 179 = .ok (.aload_n 0, 1) := by decide +kernel
theorem dX10_ofItemNow_180 : decode cX10_ofItemNow 180 = .ok (.aload 5, 2) := by decide +kernel
theorem dX10_ofItemNow_182 : decode cX10_ofItemNow 182 = .ok (.iload 6, 2) := by decide +kernel
theorem dX10_ofItemNow_184 : decode cX10_ofItemNow 184 = .ok (.invokevirtual 176, 3) := by decide +kernel
theorem dX10_ofItemNow_187 : decode cX10_ofItemNow 187 = .ok (.ifCond .eq 7, 3) := by decide +kernel
theorem dX10_ofItemNow_190 : decode cX10_ofItemNow 190 = .ok (.iconst 1, 1) := by decide +kernel
theorem dX10_ofItemNow_191 : decode cX10_ofItemNow 191 = .ok (.goto 4, 3) := by decide +kernel
theorem dX10_ofItemNow_194 : decode cX10_ofItemNow 194 = .ok (.iconst 0, 1) := by decide +kernel
theorem dX10_ofItemNow_195 : decode cX10_ofItemNow 195 = .ok (.iadd, 1) := by decide +kernel
theorem dX10_ofItemNow_196 : decode cX10_ofItemNow 196 = .ok (.istore_n 3, 1) := by decide +kernel
theorem dX10_ofItemNow_197 : decode cX10_ofItemNow 197 = .ok (.iinc 6 1, 3) := by decide +kernel
theorem dX10_ofItemNow_200 : decode cX10_ofItemNow 200 = .ok (.goto (-72), 3) := by decide +kernel
theorem dX10_ofItemNow_203 : decode cX10_ofItemNow 203 = .ok (.goto (-100), 3) := by decide +kernel
theorem dX10_ofItemNow_206 : decode cX10_ofItemNow 206 = .ok (.iload_n 3, 1) := by decide +kernel
theorem dX10_ofItemNow_207 : decode cX10_ofItemNow 207 = .ok (.ireturn, 1) := by decide +kernel
theorem dX10_ofItem_0 : decode cX10_ofItem 0 = .ok (.aload_n 0, 1) := by decide +kernel
theorem dX10_ofItem_1 : decode cX10_ofItem 1 = .ok (.iload_n 1, 1) := by decide +kernel
theorem dX10_ofItem_2 : decode cX10_ofItem 2 = .ok (.invokestatic 225, 3) := by decide +kernel
theorem dX10_ofItem_5 : decode cX10_ofItem 5 = .ok (.iconst 1, 1) := by decide +kernel
theorem dX10_ofItem_6 : decode cX10_ofItem 6 = .ok (.invokevirtual 186, 3) := by decide +kernel
theorem dX10_ofItem_9 : decode cX10_ofItem 9 = .ok (.ifCond .ne 25, 3) := by decide +kernel
theorem dX10_ofItem_12 : decode cX10_ofItem 12 = .ok (.aload_n 0, 1) := by decide +kernel
theorem dX10_ofItem_13 : decode cX10_ofItem 13 = .ok (.iload_n 2, 1) := by decide +kernel
theorem dX10_ofItem_14 : decode cX10_ofItem 14 = .ok (.iconst 0, 1) := by decide +kernel
theorem dX10_ofItem_15 : decode cX10_ofItem 15 = .ok (.iconst 3, 1) := by decide +kernel
theorem dX10_ofItem_16 : decode cX10_ofItem 16 = .ok (.invokestatic 47, 3) := by decide +kernel
theorem dX10_ofItem_19 : decode cX10_ofItem 19 = .ok (.ifCond .ne 7, 3) := by decide +kernel
theorem dX10_ofItem_22 : decode cX10_ofItem 22 = .ok (.iconst 1, 1) := by decide +kernel
theorem dX10_ofItem_23 : decode cX10_ofItem 23 = .ok (.goto 4, 3) := by decide +kernel
theorem dX10_ofItem_26 : decode cX10_ofItem 26 = .ok (.iconst 0, 1) := by decide +kernel
theorem dX10_ofItem_27 : decode cX10_ofItem 27 = .ok (.iconst 2, 1) := by decide +kernel
theorem dX10_ofItem_28 : decode cX10_ofItem 28 = .ok (.invokevirtual 39, 3) := by decide +kernel
theorem dX10_ofItem_31 : decode cX10_ofItem 31 = .ok (.ifCond .eq 7, 3) := by decide +kernel
theorem dX10_ofItem_34 : decode cX10_ofItem 34 = .ok (.iconst 0, 1) := by decide +kernel
theorem dX10_ofItem_35 : decode cX10_ofItem 35 = .ok (.goto 9, 3) := by decide +kernel
theorem dX10_ofItem_38 : decode cX10_ofItem 38 = .ok (.aload_n 0, 1) := by decide +kernel
theorem dX10_ofItem_39 : decode cX10_ofItem 39 = .ok (.iload_n 1, 1) := by decide +kernel
theorem dX10_ofItem_40 : decode cX10_ofItem 40 = .ok (.iload_n 2, 1) := by decide +kernel
theorem dX10_ofItem_41 : decode cX10_ofItem 41 = .ok (.invokevirtual 241, 3) := by decide +kernel
theorem dX10_ofItem_44 : decode cX10_ofItem 44 = .ok (.ireturn, 1) := by decide +kernel
theorem dX10_join_0 : decode cX10_join 0 = .ok (.aload_n 0, 1) := by decide +kernel
theorem dX10_join_1 : decode cX10_join 1 = .ok (.iload_n 1, 1) := by decide +kernel
theorem dX10_join_2 : decode cX10_join 2 = .ok (.invokestatic 218, 3) := by decide +kernel
theorem dX10_join_5 : decode cX10_join 5 = .ok (.iconst 1, 1) := by decide +kernel
theorem dX10_join_6 : decode cX10_join 6 = .ok (.invokevirtual 186, 3) := by decide +kernel
theorem dX10_join_9 : decode cX10_join 9 = .ok (.ifCond .ne 50, 3) := by decide +kernel
theorem dX10_join_12 : decode cX10_join 12 = .ok (.aload_n 0, 1) := by decide +kernel
theorem dX10_join_13 : decode cX10_join 13 = .ok (.aload_n 0, 1) := by decide +kernel
theorem dX10_join_14 : decode cX10_join 14 = .ok (.iload_n 2, 1) := by decide +kernel
theorem dX10_join_15 : decode cX10_join 15 = .ok (.invokevirtual 228, 3) := by decide +kernel
theorem dX10_join_18 : decode cX10_join 18 = .ok (.iconst 2, 1) := by decide +kernel
theorem dX10_join_19 : decode cX10_join 19 = .ok (.invokevirtual 39, 3) := by decide +kernel
theorem dX10_join_22 : decode cX10_join 22 = .ok (.ifCond .ne 37, 3) := by decide +kernel
theorem dX10_join_25 : decode cX10_join 25 = .ok (.aload_n 0, 1) := by decide +kernel
theorem dX10_join_26 : decode cX10_join 26 = .ok (.aload_n 0, 1) := by decide +kernel
theorem dX10_join_27 : decode cX10_join 27 = .ok (.getfield 32, 3) := by decide +kernel
theorem dX10_join_30 : decode cX10_join 30 = .ok (.invokevirtual 43, 3) := by decide +kernel
theorem dX10_join_33 : decode cX10_join 33 = .ok (.bipush 8, 2) := by decide +kernel
theorem dX10_join_35 : decode cX10_join 35 = .ok (.if_icmp .eq 12, 3) := by decide +kernel
theorem dX10_join_38 : decode cX10_join 38 = .ok (.aload_n 0, 1) := by decide +kernel
theorem dX10_join_39 : decode cX10_join 39 = .ok (.getfield 16, 3) := by decide +kernel
theorem dX10_join_42 : decode cX10_join 42 = .ok (.iload_n 1, 1) := by decide +kernel
theorem dX10_join_43 : decode cX10_join 43 = .ok (.iaload, 1) := by decide +kernel
theorem dX10_join_44 : decode cX10_join 44 = .ok (.ifCond .ne 7, 3) := by decide +kernel
theorem dX10_join_47 : decode cX10_join 47 = .ok (.iconst 1, 1) := by decide +kernel
theorem dX10_join_48 : decode cX10_join 48 = .ok (.goto 4, 3) := by decide +kernel
theorem dX10_join_51 : decode cX10_join 51 = .ok (.iconst 0, 1) := by decide +kernel
theorem dX10_join_52 : decode cX10_join 52 = .ok (.iconst 3, 1) := by decide +kernel
theorem dX10_join_53 : decode cX10_join 53 = .ok (.invokevirtual 39, 3) := by decide +kernel
theorem dX10_join_56 : decode cX10_join 56 = .ok (.ifCond .eq 5, 3) := by decide +kernel
theorem dX10_join_59 : decode cX10_join 59 = .ok (.iconst 0, 1) := by decide +kernel
theorem dX10_join_60 : decode cX10_join 60 = .ok (.ireturn, 1) := by decide +kernel
theorem dX10_join_61 : decode cX10_join 61 = .ok (.aload_n 0, 1) := by decide +kernel
theorem dX10_join_62 : decode cX10_join 62 = .ok (.getfield 32, 3) := by decide +kernel
theorem dX10_join_65 : decode cX10_join 65 = .ok (.new 64, 3) := by decide +kernel
theorem dX10_join_68 : decode cX10_join 68 = .ok (.dup, 1) := by decide +kernel
theorem dX10_join_69 : decode cX10_join 69 = .ok (.aload_n 0, 1) := by decide +kernel
theorem dX10_join_70 : decode cX10_join 70 = .ok (.getfield 16, 3) := by decide +kernel
theorem dX10_join_73 : decode cX10_join 73 = .ok (.iload_n 1, 1) := by decide +kernel
theorem dX10_join_74 : decode cX10_join 74 = .ok (.iaload, 1) := by decide +kernel
theorem dX10_join_75 : decode cX10_join 75 = .ok (.iload_n 2, 1) := by decide +kernel
theorem dX10_join_76 : decode cX10_join 76 = .ok (.invokespecial 244, 3) := by decide +kernel
theorem dX10_join_79 : decode cX10_join 79 = .ok (.invokevirtual 214, 3) := by decide +kernel
theorem dX10_join_82 : decode cX10_join 82 = .ok (.pop, 1) := by decide +kernel
theorem dX10_join_83 : decode cX10_join 83 = .ok (.aload_n 0, 1) := by decide +kernel
theorem dX10_join_84 : decode cX10_join 84 = .ok (.invokevirtual 201, 3) := by decide +kernel
theorem dX10_join_87 : decode cX10_join 87 = .ok (.aload_n 0, 1) := by decide +kernel
theorem dX10_join_88 : decode cX10_join 88 = .ok (.getfield 32, 3) := by decide +kernel
theorem dX10_join_91 : decode cX10_join 91 = .ok (.invokevirtual 43, 3) := by decide +kernel
theorem dX10_join_94 : decode cX10_join 94 = .ok (.iconst 1, 1) := by decide +kernel
theorem dX10_join_95 : decode cX10_join 95 = .ok (.isub, 1) := by decide +kernel
theorem dX10_join_96 : decode cX10_join 96 = .ok (.ireturn, 1) := by decide +kernel
theorem dX10_isNo_0 : decode cX10_isNo 0 = .ok (.iload_n 1, 1) := by decide +kernel
theorem dX10_isNo_1 : decode cX10_isNo 1 = .ok (.iconst 0, 1) := by decide +kernel
theorem dX10_isNo_2 : decode cX10_isNo 2 = .ok (.aload_n 0, 1) := by decide +kernel
theorem dX10_isNo_3 : decode cX10_isNo 3 = .ok (.getfield 32, 3) := by decide +kernel
theorem dX10_isNo_6 : decode cX10_isNo 6 = .ok (.invokevirtual 43, 3) := by decide +kernel
theorem dX10_isNo_9 : decode cX10_isNo 9 = .ok (.iconst 1, 1) := by decide +kernel
theorem dX10_isNo_10 : decode cX10_isNo 10 = .ok (.isub, 1) := by decide +kernel
theorem dX10_isNo_11 : decode cX10_isNo 11 = .ok (.invokestatic 47, 3) := by decide +kernel
theorem dX10_isNo_14 : decode cX10_isNo 14 = .ok (.ifCond .ne 7, 3) := by decide +kernel
theorem dX10_isNo_17 : decode cX10_isNo 17 = .ok (.iconst 1, 1) := by decide +kernel
theorem dX10_isNo_18 : decode cX10_isNo 18 = .ok (.goto 4, 3) := by decide +kernel
theorem dX10_isNo_21 : decode cX10_isNo 21 = .ok (.iconst 0, 1) := by decide +kernel
theorem dX10_isNo_22 : decode cX10_isNo 22 = .ok (.ireturn, 1) := by decide +kernel
theorem dX10_isNoJoiner_0 : decode cX10_isNoJoiner 0 = .ok (.aload_n 0, 1) := by decide +kernel
theorem dX10_isNoJoiner_1 : decode cX10_isNoJoiner 1 = .ok (.aload_n 0, 1) := by decide +kernel
theorem dX10_isNoJoiner_2 : decode cX10_isNoJoiner 2 = .ok (.iload_n 1, 1) := by decide +kernel
theorem dX10_isNoJoiner_3 : decode cX10_isNoJoiner 3 = .ok (.invokevirtual 247, 3) := by decide +kernel
theorem dX10_isNoJoiner_6 : decode cX10_isNoJoiner 6 = .ok (.iconst 1, 1) := by decide +kernel
theorem dX10_isNoJoiner_7 : decode cX10_isNoJoiner 7 = .ok (.invokevirtual 186, 3) := by decide +kernel
theorem dX10_isNoJoiner_10 : decode cX10_isNoJoiner 10 = .ok (.ireturn, 1) := by decide +kernel
theorem dX10_leave_0 : decode cX10_leave 0 = .ok (.aload_n 0, 1) := by decide +kernel
theorem dX10_leave_1 : decode cX10_leave 1 = .ok (.iload_n 1, 1) := by decide +kernel
theorem dX10_leave_2 : decode cX10_leave 2 = .ok (.invokevirtual 250, 3) := by decide +kernel
theorem dX10_leave_5 : decode cX10_leave 5 = .ok (.ifCond .ne 25, 3) := by decide +kernel
theorem dX10_leave_8 : decode cX10_leave 8 = .ok (.aload_n 0, 1) := by decide +kernel
theorem dX10_leave_9 : decode cX10_leave 9 = .ok (.aload_n 0, 1) := by decide +kernel
theorem dX10_leave_10 : decode cX10_leave 10 = .ok (.getfield 32, 3) := by decide +kernel
theorem dX10_leave_13 : decode cX10_leave 13 = .ok (.iload_n 1, 1) := by decide +kernel
theorem dX10_leave_14 : decode cX10_leave 14 = .ok (.invokevirtual 51, 3) := by decide +kernel
theorem dX10_leave_17 : decode cX10_leave 17 = .ok (.checkcast 64, 3) := by decide +kernel
theorem dX10_leave_20 : decode cX10_leave 20 = .ok (.getfield 140, 3) := by decide +kernel
theorem dX10_leave_23 : decode cX10_leave 23 = .ok (.iconst 2, 1) := by decide +kernel
theorem dX10_leave_24 : decode cX10_leave 24 = .ok (.invokevirtual 39, 3) := by decide +kernel
theorem dX10_leave_27 : decode cX10_leave 27 = .ok (.ifCond .eq 5, 3) := by decide +kernel
theorem dX10_leave_30 : decode cX10_leave 30 = .ok (.iconst 0, 1) := by decide +kernel
theorem dX10_leave_31 : decode cX10_leave 31 = .ok (.ireturn, 1) := by decide +kernel
theorem dX10_leave_32 : decode cX10_leave 32 = .ok (.aload_n 0, 1) := by decide +kernel
theorem dX10_leave_33 : decode cX10_leave 33 = .ok (.getfield 32, 3) := by decide +kernel
theorem dX10_leave_36 : decode cX10_leave 36 = .ok (.iload_n 1, 1) := by decide +kernel
theorem dX10_leave_37 : decode cX10_leave 37 = .ok (.invokevirtual 51, 3) := by decide +kernel
theorem dX10_leave_40 : decode cX10_leave 40 = .ok (.checkcast 64, 3) := by decide +kernel
theorem dX10_leave_43 : decode cX10_leave 43 = .ok (.astore_n 2, 1) := by decide +kernel
theorem dX10_leave_44 : decode cX10_leave 44 = .ok (.aload_n 2, 1) := by decide +kernel
theorem dX10_leave_45 : decode cX10_leave 45 = .ok (.iconst 1, 1) := by decide +kernel
theorem dX10_leave_46 : decode cX10_leave 46 = .ok (.putfield 140, 3) := by decide +kernel
theorem dX10_leave_49 : decode cX10_leave 49 = .ok (.iconst 0, 1) := by decide +kernel
theorem dX10_leave_50 : decode cX10_leave 50 = .ok (.istore_n 3, 1) := by decide +kernel
theorem dX10_leave_51 : decode cX10_leave 51 = .ok (.iload_n 3, 1) := by decide +kernel
theorem dX10_leave_52 : decode cX10_leave 52 = .ok (.bipush 12, 2) := by decide +kernel
theorem dX10_leave_54 : decode cX10_leave 54 = .ok (.if_icmp .ge 25, 3) := by decide +kernel
theorem dX10_leave_57 : decode cX10_leave 57 = .ok (.aload_n 2, 1) := by decide +kernel
theorem dX10_leave_58 : decode cX10_leave 58 = .ok (.iload_n 3, 1) := by decide +kernel
theorem dX10_leave_59 : decode cX10_leave 59 = .ok (.iconst 0, 1) := by decide +kernel
theorem dX10_leave_60 : decode cX10_leave 60 = .ok (.invokevirtual 63, 3) := by decide +kernel
theorem dX10_leave_63 : decode cX10_leave 63 = .ok (.ifCond .eq 10, 3) := by decide +kernel
theorem dX10_leave_66 : decode cX10_leave 66 = .ok (.aload_n 2, 1) := by decide +kernel
theorem dX10_leave_67 : decode cX10_leave 67 = .ok (.getfield 126, 3) := by decide +kernel
theorem dX10_leave_70 : decode cX10_leave 70 = .ok (.iload_n 3, 1) := by decide +kernel
theorem dX10_leave_71 : decode cX10_leave 71 = .ok (.iconst (-1), 1) := by decide +kernel
theorem dX10_leave_72 : decode cX10_leave 72 = .ok (.iastore, 1) := by decide +kernel
theorem dX10_leave_73 : decode cX10_leave 73 = .ok (.iinc 3 1, 3) := by decide +kernel
theorem dX10_leave_76 : decode cX10_leave 76 = .ok (.goto (-25), 3) := by decide +kernel
theorem dX10_leave_79 : decode cX10_leave 79 = .ok (.aload_n 0, 1) := by decide +kernel
theorem dX10_leave_80 : decode cX10_leave 80 = .ok (.invokevirtual 201, 3) := by decide +kernel
theorem dX10_leave_83 : decode cX10_leave 83 = .ok (.aload_n 2, 1) := by decide +kernel
theorem dX10_leave_84 : decode cX10_leave 84 = .ok (.iconst 1, 1) := by decide +kernel
theorem dX10_leave_85 : decode cX10_leave 85 = .ok (.invokevirtual 253, 3) := by decide +kernel
theorem dX10_leave_88 : decode cX10_leave 88 = .ok (.aload_n 2, 1) := by decide +kernel
theorem dX10_leave_89 : decode cX10_leave 89 = .ok (.iconst 2, 1) := by decide +kernel
theorem dX10_leave_90 : decode cX10_leave 90 = .ok (.invokevirtual 253, 3) := by decide +kernel
theorem dX10_leave_93 : decode cX10_leave 93 = .ok (.iadd, 1) := by decide +kernel
theorem dX10_leave_94 : decode cX10_leave 94 = .ok (.ireturn, 1) := by decide +kernel
theorem dX10_isNoStep_0 : decode cX10_isNoStep 0 = .ok (.aload_n 0, 1) := by decide +kernel
theorem dX10_isNoStep_1 : decode cX10_isNoStep 1 = .ok (.aload_n 0, 1) := by decide +kernel
theorem dX10_isNoStep_2 : decode cX10_isNoStep 2 = .ok (.iload_n 1, 1) := by decide +kernel
theorem dX10_isNoStep_3 : decode cX10_isNoStep 3 = .ok (.invokevirtual 247, 3) := by decide +kernel
theorem dX10_isNoStep_6 : decode cX10_isNoStep 6 = .ok (.ifCond .ne 31, 3) := by decide +kernel
theorem dX10_isNoStep_9 : decode cX10_isNoStep 9 = .ok (.iload_n 2, 1) := by decide +kernel
theorem dX10_isNoStep_10 : decode cX10_isNoStep 10 = .ok (.iconst 0, 1) := by decide +kernel
theorem dX10_isNoStep_11 : decode cX10_isNoStep 11 = .ok (.bipush 11, 2) := by decide +kernel
theorem dX10_isNoStep_13 : decode cX10_isNoStep 13 = .ok (.invokestatic 47, 3) := by decide +kernel
theorem dX10_isNoStep_16 : decode cX10_isNoStep 16 = .ok (.ifCond .eq 21, 3) := by decide +kernel
theorem dX10_isNoStep_19 : decode cX10_isNoStep 19 = .ok (.aload_n 0, 1) := by decide +kernel
theorem dX10_isNoStep_20 : decode cX10_isNoStep 20 = .ok (.getfield 32, 3) := by decide +kernel
theorem dX10_isNoStep_23 : decode cX10_isNoStep 23 = .ok (.iload_n 1, 1) := by decide +kernel
theorem dX10_isNoStep_24 : decode cX10_isNoStep 24 = .ok (.invokevirtual 51, 3) := by decide +kernel
theorem dX10_isNoStep_27 : decode cX10_isNoStep 27 = .ok (.checkcast 64, 3) := by decide +kernel
theorem dX10_isNoStep_30 : decode cX10_isNoStep 30 = .ok (.iload_n 2, 1) := by decide +kernel
theorem dX10_isNoStep_31 : decode cX10_isNoStep 31 = .ok (.invokevirtual 256, 3) := by decide +kernel
theorem dX10_isNoStep_34 : decode cX10_isNoStep 34 = .ok (.ifCond .ne 7, 3) := by decide +kernel
theorem dX10_isNoStep_37 : decode cX10_isNoStep 37 = .ok (.iconst 1, 1) := by decide +kernel
theorem dX10_isNoStep_38 : decode cX10_isNoStep 38 = .ok (.goto 4, 3) := by decide +kernel
theorem dX10_isNoStep_41 : decode cX10_isNoStep 41 = .ok (.iconst 0, 1) := by decide +kernel
theorem dX10_isNoStep_42 : decode cX10_isNoStep 42 = .ok (.iconst 1, 1) := by decide +kernel
theorem dX10_isNoStep_43 : decode cX10_isNoStep 43 = .ok (.invokevirtual 186, 3) := by decide +kernel
theorem dX10_isNoStep_46 : decode cX10_isNoStep 46 = .ok (.ireturn, 1) := by decide +kernel
theorem dX10_ofStepNow_0 : decode cX10_ofStepNow 0 = .ok (.iload_n 3, 1) := by decide +kernel
theorem dX10_ofStepNow_1 : decode cX10_ofStepNow 1 = .ok (.tableswitch 92 0 4 #[35, 42, 60, 78, 85], 35) := by decide +kernel
theorem dX10_ofStepNow_36 : decode cX10_ofStepNow 36 = .ok (.aload_n 1, 1) := by decide +kernel
theorem dX10_ofStepNow_37 : decode cX10_ofStepNow 37 = .ok (.getfield 75, 3) := by decide +kernel
theorem dX10_ofStepNow_40 : decode cX10_ofStepNow 40 = .ok (.iload_n 2, 1) := by decide +kernel
theorem dX10_ofStepNow_41 : decode cX10_ofStepNow 41 = .ok (.iaload, 1) := by decide +kernel
theorem dX10_ofStepNow_42 : decode cX10_ofStepNow 42 = .ok (.ireturn, 1) := by decide +kernel
theorem dX10_ofStepNow_43 : decode cX10_ofStepNow 43 = .ok (.aload_n 1, 1) := by decide +kernel
theorem dX10_ofStepNow_44 : decode cX10_ofStepNow 44 = .ok (.getfield 140, 3) := by decide +kernel
theorem dX10_ofStepNow_47 : decode cX10_ofStepNow 47 = .ok (.ifCond .eq 7, 3) := by decide +kernel
theorem dX10_ofStepNow_50 : decode cX10_ofStepNow 50 = .ok (.iconst (-1), 1) := by decide +kernel
theorem dX10_ofStepNow_51 : decode cX10_ofStepNow 51 = .ok (.goto 9, 3) := by decide +kernel
theorem dX10_ofStepNow_54 : decode cX10_ofStepNow 54 = .ok (.aload_n 0, 1) := by decide +kernel
theorem dX10_ofStepNow_55 : decode cX10_ofStepNow 55 = .ok (.aload_n 1, 1) := by decide +kernel
theorem dX10_ofStepNow_56 : decode cX10_ofStepNow 56 = .ok (.iload_n 2, 1) := by decide +kernel
theorem dX10_ofStepNow_57 : decode cX10_ofStepNow 57 = .ok (.invokevirtual 135, 3) := by decide +kernel
theorem dX10_ofStepNow_60 : decode cX10_ofStepNow 60 = .ok (.ireturn, 1) := by decide +kernel
theorem dX10_ofStepNow_61 : decode cX10_ofStepNow 61 = .ok (.aload_n 1, 1) := by decide +kernel
theorem dX10_ofStepNow_62 : decode cX10_ofStepNow 62 = .ok (.getfield 140, 3) := by decide +kernel
theorem dX10_ofStepNow_65 : decode cX10_ofStepNow 65 = .ok (.ifCond .eq 7, 3) := by decide +kernel
theorem dX10_ofStepNow_68 : decode cX10_ofStepNow 68 = .ok (.iconst (-1), 1) := by decide +kernel
theorem dX10_ofStepNow_69 : decode cX10_ofStepNow 69 = .ok (.goto 9, 3) := by decide +kernel
theorem dX10_ofStepNow_72 : decode cX10_ofStepNow 72 = .ok (.aload_n 0, 1) := by decide +kernel
theorem dX10_ofStepNow_73 : decode cX10_ofStepNow 73 = .ok (.aload_n 1, 1) := by decide +kernel
theorem dX10_ofStepNow_74 : decode cX10_ofStepNow 74 = .ok (.iload_n 2, 1) := by decide +kernel
theorem dX10_ofStepNow_75 : decode cX10_ofStepNow 75 = .ok (.invokevirtual 123, 3) := by decide +kernel
theorem dX10_ofStepNow_78 : decode cX10_ofStepNow 78 = .ok (.ireturn, 1) := by decide +kernel
theorem dX10_ofStepNow_79 : decode cX10_ofStepNow 79 = .ok (.aload_n 1, 1) := by decide +kernel
theorem dX10_ofStepNow_80 : decode cX10_ofStepNow 80 = .ok (.getfield 126, 3) := by decide +kernel
theorem dX10_ofStepNow_83 : decode cX10_ofStepNow 83 = .ok (.iload_n 2, 1) := by decide +kernel
theorem dX10_ofStepNow_84 : decode cX10_ofStepNow 84 = .ok (.iaload, 1) := by decide +kernel
theorem dX10_ofStepNow_85 : decode cX10_ofStepNow 85 = .ok (.ireturn, 1) := by decide +kernel
theorem dX10_ofStepNow_86 : decode cX10_ofStepNow 86 = .ok (.aload_n 0, 1) := by decide +kernel
theorem dX10_ofStepNow_87 : decode cX10_ofStepNow 87 = .ok (.aload_n 1, 1) := by decide +kernel
theorem dX10_ofStepNow_88 : decode cX10_ofStepNow 88 = .ok (.iload_n 2, 1) := by decide +kernel
theorem dX10_ofStepNow_89 : decode cX10_ofStepNow 89 = .ok (.invokevirtual 138, 3) := by decide +kernel
theorem dX10_ofStepNow_92 : decode cX10_ofStepNow 92 = .ok (.ireturn, 1) := by decide +kernel
theorem dX10_ofStepNow_93 : decode cX10_ofStepNow 93 = .ok (.aload_n 1, 1) := by decide +kernel
theorem dX10_ofStepNow_94 : decode cX10_ofStepNow 94 = .ok (.getfield 198, 3) := by decide +kernel
theorem dX10_ofStepNow_97 : decode cX10_ofStepNow 97 = .ok (.iload_n 2, 1) := by decide +kernel
theorem dX10_ofStepNow_98 : decode cX10_ofStepNow 98 = .ok (.iaload, 1) := by decide +kernel
theorem dX10_ofStepNow_99 : decode cX10_ofStepNow 99 = .ok (.ireturn, 1) := by decide +kernel
theorem dX10_ofStep_0 : decode cX10_ofStep 0 = .ok (.aload_n 0, 1) := by decide +kernel
theorem dX10_ofStep_1 : decode cX10_ofStep 1 = .ok (.iload_n 1, 1) := by decide +kernel
theorem dX10_ofStep_2 : decode cX10_ofStep 2 = .ok (.iload_n 2, 1) := by decide +kernel
theorem dX10_ofStep_3 : decode cX10_ofStep 3 = .ok (.invokevirtual 259, 3) := by decide +kernel
theorem dX10_ofStep_6 : decode cX10_ofStep 6 = .ok (.ifCond .ne 25, 3) := by decide +kernel
theorem dX10_ofStep_9 : decode cX10_ofStep 9 = .ok (.aload_n 0, 1) := by decide +kernel
theorem dX10_ofStep_10 : decode cX10_ofStep 10 = .ok (.iload_n 3, 1) := by decide +kernel
theorem dX10_ofStep_11 : decode cX10_ofStep 11 = .ok (.iconst 0, 1) := by decide +kernel
theorem dX10_ofStep_12 : decode cX10_ofStep 12 = .ok (.iconst 5, 1) := by decide +kernel
theorem dX10_ofStep_13 : decode cX10_ofStep 13 = .ok (.invokestatic 47, 3) := by decide +kernel
theorem dX10_ofStep_16 : decode cX10_ofStep 16 = .ok (.ifCond .ne 7, 3) := by decide +kernel
theorem dX10_ofStep_19 : decode cX10_ofStep 19 = .ok (.iconst 1, 1) := by decide +kernel
theorem dX10_ofStep_20 : decode cX10_ofStep 20 = .ok (.goto 4, 3) := by decide +kernel
theorem dX10_ofStep_23 : decode cX10_ofStep 23 = .ok (.iconst 0, 1) := by decide +kernel
theorem dX10_ofStep_24 : decode cX10_ofStep 24 = .ok (.iconst 2, 1) := by decide +kernel
theorem dX10_ofStep_25 : decode cX10_ofStep 25 = .ok (.invokevirtual 39, 3) := by decide +kernel
theorem dX10_ofStep_28 : decode cX10_ofStep 28 = .ok (.ifCond .eq 7, 3) := by decide +kernel
theorem dX10_ofStep_31 : decode cX10_ofStep 31 = .ok (.iconst 0, 1) := by decide +kernel
theorem dX10_ofStep_32 : decode cX10_ofStep 32 = .ok (.goto 20, 3) := by decide +kernel
theorem dX10_ofStep_35 : decode cX10_ofStep 35 = .ok (.aload_n 0, 1) := by decide +kernel
theorem dX10_ofStep_36 : decode cX10_ofStep 36 = .ok (.aload_n 0, 1) := by decide +kernel
theorem dX10_ofStep_37 : decode cX10_ofStep 37 = .ok (.getfield 32, 3) := by decide +kernel
theorem dX10_ofStep_40 : decode cX10_ofStep 40 = .ok (.iload_n 1, 1) := by decide +kernel
theorem dX10_ofStep_41 : decode cX10_ofStep 41 = .ok (.invokevirtual 51, 3) := by decide +kernel
theorem dX10_ofStep_44 : decode cX10_ofStep 44 = .ok (.checkcast 64, 3) := by decide +kernel
theorem dX10_ofStep_47 : decode cX10_ofStep 47 = .ok (.iload_n 2, 1) := by decide +kernel
theorem dX10_ofStep_48 : decode cX10_ofStep 48 = .ok (.iload_n 3, 1) := by decide +kernel
theorem dX10_ofStep_49 : decode cX10_ofStep 49 = .ok (.invokevirtual 262, 3) := by decide +kernel
theorem dX10_ofStep_52 : decode cX10_ofStep 52 = .ok (.ireturn, 1) := by decide +kernel
theorem dX10_rightsOf_0 : decode cX10_rightsOf 0 = .ok (.iconst 0, 1) := by decide +kernel
theorem dX10_rightsOf_1 : decode cX10_rightsOf 1 = .ok (.istore_n 2, 1) := by decide +kernel
theorem dX10_rightsOf_2 : decode cX10_rightsOf 2 = .ok (.iconst 0, 1) := by decide +kernel
theorem dX10_rightsOf_3 : decode cX10_rightsOf 3 = .ok (.istore_n 3, 1) := by decide +kernel
theorem dX10_rightsOf_4 : decode cX10_rightsOf 4 = .ok (.iload_n 3, 1) := by decide +kernel
theorem dX10_rightsOf_5 : decode cX10_rightsOf 5 = .ok (.aload_n 0, 1) := by decide +kernel
theorem dX10_rightsOf_6 : decode cX10_rightsOf 6 = .ok (.getfield 20, 3) := by decide +kernel
theorem dX10_rightsOf_9 : decode cX10_rightsOf 9 = .ok (.invokevirtual 43, 3) := by decide +kernel
theorem dX10_rightsOf_12 : decode cX10_rightsOf 12 = .ok (.if_icmp .ge 40, 3) := by decide +kernel
theorem dX10_rightsOf_15 : decode cX10_rightsOf 15 = .ok (.iload_n 2, 1) := by decide +kernel
theorem dX10_rightsOf_16 : decode cX10_rightsOf 16 = .ok (.aload_n 1, 1) := by decide +kernel
theorem dX10_rightsOf_17 : decode cX10_rightsOf 17 = .ok (.aload_n 0, 1) := by decide +kernel
theorem dX10_rightsOf_18 : decode cX10_rightsOf 18 = .ok (.getfield 20, 3) := by decide +kernel
theorem dX10_rightsOf_21 : decode cX10_rightsOf 21 = .ok (.iload_n 3, 1) := by decide +kernel
theorem dX10_rightsOf_22 : decode cX10_rightsOf 22 = .ok (.invokevirtual 51, 3) := by decide +kernel
theorem dX10_rightsOf_25 : decode cX10_rightsOf 25 = .ok (.checkcast 70, 3) := by decide +kernel
theorem dX10_rightsOf_28 : decode cX10_rightsOf 28 = .ok (.invokevirtual 266, 3) := by decide +kernel
theorem dX10_rightsOf_31 : decode cX10_rightsOf 31 = .ok (.invokevirtual 269, 3) := by decide +kernel
theorem dX10_rightsOf_34 : decode cX10_rightsOf 34 = .ok (.ifCond .eq 9, 3) := by decide +kernel
theorem dX10_rightsOf_37 : decode cX10_rightsOf 37 = .ok (.iconst 1, 1) := by decide +kernel
theorem dX10_rightsOf_38 : decode cX10_rightsOf 38 = .ok (.iload_n 3, 1) := by decide +kernel
theorem dX10_rightsOf_39 : decode cX10_rightsOf 39 = .ok (.ishl, 1) := by decide +kernel
theorem dX10_rightsOf_40 : decode cX10_rightsOf 40 = .ok (.goto 4, 3) := by decide +kernel
theorem dX10_rightsOf_43 : decode cX10_rightsOf 43 = .ok (.iconst 0, 1) := by decide +kernel
theorem dX10_rightsOf_44 : decode cX10_rightsOf 44 = .ok (.ior, 1) := by decide +kernel
theorem dX10_rightsOf_45 : decode cX10_rightsOf 45 = .ok (.istore_n 2, 1) := by decide +kernel
theorem dX10_rightsOf_46 : decode cX10_rightsOf 46 = .ok (.iinc 3 1, 3) := by decide +kernel
theorem dX10_rightsOf_49 : decode cX10_rightsOf 49 = .ok (.goto (-45), 3) := by decide +kernel
theorem dX10_rightsOf_52 : decode cX10_rightsOf 52 = .ok (.iload_n 2, 1) := by decide +kernel
theorem dX10_rightsOf_53 : decode cX10_rightsOf 53 = .ok (.ireturn, 1) := by decide +kernel
theorem dX10_ofJoinerNow_0 : decode cX10_ofJoinerNow 0 = .ok (.bipush 7, 2) := by decide +kernel
theorem dX10_ofJoinerNow_2 : decode cX10_ofJoinerNow 2 = .ok (.newarray .int, 2) := by decide +kernel
theorem dX10_ofJoinerNow_4 : decode cX10_ofJoinerNow 4 = .ok (.dup, 1) := by decide +kernel
theorem dX10_ofJoinerNow_5 : decode cX10_ofJoinerNow 5 = .ok (.iconst 0, 1) := by decide +kernel
theorem dX10_ofJoinerNow_6 : decode cX10_ofJoinerNow 6 = .ok (.aload_n 1, 1) := by decide +kernel
theorem dX10_ofJoinerNow_7 : decode cX10_ofJoinerNow 7 = .ok (.getfield 118, 3) := by decide +kernel
theorem dX10_ofJoinerNow_10 : decode cX10_ofJoinerNow 10 = .ok (.iastore, 1) := by decide +kernel
theorem dX10_ofJoinerNow_11 : decode cX10_ofJoinerNow 11 = .ok (.dup, 1) := by decide +kernel
theorem dX10_ofJoinerNow_12 : decode cX10_ofJoinerNow 12 = .ok (.iconst 1, 1) := by decide +kernel
theorem dX10_ofJoinerNow_13 : decode cX10_ofJoinerNow 13 = .ok (.aload_n 1, 1) := by decide +kernel
theorem dX10_ofJoinerNow_14 : decode cX10_ofJoinerNow 14 = .ok (.getfield 106, 3) := by decide +kernel
theorem dX10_ofJoinerNow_17 : decode cX10_ofJoinerNow 17 = .ok (.iastore, 1) := by decide +kernel
theorem dX10_ofJoinerNow_18 : decode cX10_ofJoinerNow 18 = .ok (.dup, 1) := by decide +kernel
theorem dX10_ofJoinerNow_19 : decode cX10_ofJoinerNow 19 = .ok (.iconst 2, 1) := by decide +kernel
theorem dX10_ofJoinerNow_20 : decode cX10_ofJoinerNow 20 = .ok (.aload_n 1, 1) := by decide +kernel
theorem dX10_ofJoinerNow_21 : decode cX10_ofJoinerNow 21 = .ok (.iconst 2, 1) := by decide +kernel
theorem dX10_ofJoinerNow_22 : decode cX10_ofJoinerNow 22 = .ok (.invokevirtual 253, 3) := by decide +kernel
theorem dX10_ofJoinerNow_25 : decode cX10_ofJoinerNow 25 = .ok (.iastore, 1) := by decide +kernel
theorem dX10_ofJoinerNow_26 : decode cX10_ofJoinerNow 26 = .ok (.dup, 1) := by decide +kernel
theorem dX10_ofJoinerNow_27 : decode cX10_ofJoinerNow 27 = .ok (.iconst 3, 1) := by decide +kernel
theorem dX10_ofJoinerNow_28 : decode cX10_ofJoinerNow 28 = .ok (.aload_n 1, 1) := by decide +kernel
theorem dX10_ofJoinerNow_29 : decode cX10_ofJoinerNow 29 = .ok (.iconst 1, 1) := by decide +kernel
theorem dX10_ofJoinerNow_30 : decode cX10_ofJoinerNow 30 = .ok (.invokevirtual 253, 3) := by decide +kernel
theorem dX10_ofJoinerNow_33 : decode cX10_ofJoinerNow 33 = .ok (.iastore, 1) := by decide +kernel
theorem dX10_ofJoinerNow_34 : decode cX10_ofJoinerNow 34 = .ok (.dup, 1) := by decide +kernel
theorem dX10_ofJoinerNow_35 : decode cX10_ofJoinerNow 35 = .ok (.iconst 4, 1) := by decide +kernel
theorem dX10_ofJoinerNow_36 : decode cX10_ofJoinerNow 36 = .ok (.aload_n 0, 1) := by decide +kernel
theorem dX10_ofJoinerNow_37 : decode cX10_ofJoinerNow 37 = .ok (.aload_n 1, 1) := by decide +kernel
theorem dX10_ofJoinerNow_38 : decode cX10_ofJoinerNow 38 = .ok (.invokevirtual 272, 3) := by decide +kernel
theorem dX10_ofJoinerNow_41 : decode cX10_ofJoinerNow 41 = .ok (.iastore, 1) := by decide +kernel
theorem dX10_ofJoinerNow_42 : decode cX10_ofJoinerNow 42 = .ok (.dup, 1) := by decide +kernel
theorem dX10_ofJoinerNow_43 : decode cX10_ofJoinerNow 43 = .ok (.iconst 5, 1) := by decide +kernel
theorem dX10_ofJoinerNow_44 : decode cX10_ofJoinerNow 44 = .ok (.aload_n 1, 1) := by decide +kernel
theorem dX10_ofJoinerNow_45 : decode cX10_ofJoinerNow 45 = .ok (.getfield 140, 3) := by decide +kernel
theorem dX10_ofJoinerNow_48 : decode cX10_ofJoinerNow 48 = .ok (.ifCond .eq 7, 3) := by decide +kernel
theorem dX10_ofJoinerNow_51 : decode cX10_ofJoinerNow 51 = .ok (.iconst 1, 1) := by decide +kernel
theorem dX10_ofJoinerNow_52 : decode cX10_ofJoinerNow 52 = .ok (.goto 4, 3) := by decide +kernel
theorem dX10_ofJoinerNow_55 : decode cX10_ofJoinerNow 55 = .ok (.iconst 0, 1) := by decide +kernel
theorem dX10_ofJoinerNow_56 : decode cX10_ofJoinerNow 56 = .ok (.iastore, 1) := by decide +kernel
theorem dX10_ofJoinerNow_57 : decode cX10_ofJoinerNow 57 = .ok (.dup, 1) := by decide +kernel
theorem dX10_ofJoinerNow_58 : decode cX10_ofJoinerNow 58 = .ok (.bipush 6, 2) := by decide +kernel
theorem dX10_ofJoinerNow_60 : decode cX10_ofJoinerNow 60 = .ok (.aload_n 0, 1) := by decide +kernel
theorem dX10_ofJoinerNow_61 : decode cX10_ofJoinerNow 61 = .ok (.aload_n 1, 1) := by decide +kernel
theorem dX10_ofJoinerNow_62 : decode cX10_ofJoinerNow 62 = .ok (.invokevirtual 276, 3) := by decide +kernel
theorem dX10_ofJoinerNow_65 : decode cX10_ofJoinerNow 65 = .ok (.iastore, 1) := by decide +kernel
theorem dX10_ofJoinerNow_66 : decode cX10_ofJoinerNow 66 = .ok (.astore_n 3, 1) := by decide +kernel
theorem dX10_ofJoinerNow_67 : decode cX10_ofJoinerNow 67 = .ok (.aload_n 3, 1) := by decide +kernel
theorem dX10_ofJoinerNow_68 : decode cX10_ofJoinerNow 68 = .ok (.iload_n 2, 1) := by decide +kernel
theorem dX10_ofJoinerNow_69 : decode cX10_ofJoinerNow 69 = .ok (.iaload, 1) := by decide +kernel
theorem dX10_ofJoinerNow_70 : decode cX10_ofJoinerNow 70 = .ok (.ireturn, 1) := by decide +kernel
theorem dX10_ofJoiner_0 : decode cX10_ofJoiner 0 = .ok (.aload_n 0, 1) := by decide +kernel
theorem dX10_ofJoiner_1 : decode cX10_ofJoiner 1 = .ok (.iload_n 1, 1) := by decide +kernel
theorem dX10_ofJoiner_2 : decode cX10_ofJoiner 2 = .ok (.invokevirtual 250, 3) := by decide +kernel
theorem dX10_ofJoiner_5 : decode cX10_ofJoiner 5 = .ok (.ifCond .ne 26, 3) := by decide +kernel
theorem dX10_ofJoiner_8 : decode cX10_ofJoiner 8 = .ok (.aload_n 0, 1) := by decide +kernel
theorem dX10_ofJoiner_9 : decode cX10_ofJoiner 9 = .ok (.iload_n 2, 1) := by decide +kernel
theorem dX10_ofJoiner_10 : decode cX10_ofJoiner 10 = .ok (.iconst 0, 1) := by decide +kernel
theorem dX10_ofJoiner_11 : decode cX10_ofJoiner 11 = .ok (.bipush 6, 2) := by decide +kernel
theorem dX10_ofJoiner_13 : decode cX10_ofJoiner 13 = .ok (.invokestatic 47, 3) := by decide +kernel
theorem dX10_ofJoiner_16 : decode cX10_ofJoiner 16 = .ok (.ifCond .ne 7, 3) := by decide +kernel
theorem dX10_ofJoiner_19 : decode cX10_ofJoiner 19 = .ok (.iconst 1, 1) := by decide +kernel
theorem dX10_ofJoiner_20 : decode cX10_ofJoiner 20 = .ok (.goto 4, 3) := by decide +kernel
theorem dX10_ofJoiner_23 : decode cX10_ofJoiner 23 = .ok (.iconst 0, 1) := by decide +kernel
theorem dX10_ofJoiner_24 : decode cX10_ofJoiner 24 = .ok (.iconst 2, 1) := by decide +kernel
theorem dX10_ofJoiner_25 : decode cX10_ofJoiner 25 = .ok (.invokevirtual 39, 3) := by decide +kernel
theorem dX10_ofJoiner_28 : decode cX10_ofJoiner 28 = .ok (.ifCond .eq 7, 3) := by decide +kernel
theorem dX10_ofJoiner_31 : decode cX10_ofJoiner 31 = .ok (.iconst 0, 1) := by decide +kernel
theorem dX10_ofJoiner_32 : decode cX10_ofJoiner 32 = .ok (.goto 19, 3) := by decide +kernel
theorem dX10_ofJoiner_35 : decode cX10_ofJoiner 35 = .ok (.aload_n 0, 1) := by decide +kernel
theorem dX10_ofJoiner_36 : decode cX10_ofJoiner 36 = .ok (.aload_n 0, 1) := by decide +kernel
theorem dX10_ofJoiner_37 : decode cX10_ofJoiner 37 = .ok (.getfield 32, 3) := by decide +kernel
theorem dX10_ofJoiner_40 : decode cX10_ofJoiner 40 = .ok (.iload_n 1, 1) := by decide +kernel
theorem dX10_ofJoiner_41 : decode cX10_ofJoiner 41 = .ok (.invokevirtual 51, 3) := by decide +kernel
theorem dX10_ofJoiner_44 : decode cX10_ofJoiner 44 = .ok (.checkcast 64, 3) := by decide +kernel
theorem dX10_ofJoiner_47 : decode cX10_ofJoiner 47 = .ok (.iload_n 2, 1) := by decide +kernel
theorem dX10_ofJoiner_48 : decode cX10_ofJoiner 48 = .ok (.invokevirtual 279, 3) := by decide +kernel
theorem dX10_ofJoiner_51 : decode cX10_ofJoiner 51 = .ok (.ireturn, 1) := by decide +kernel
theorem dX10_count_0 : decode cX10_count 0 = .ok (.iconst 0, 1) := by decide +kernel
theorem dX10_count_1 : decode cX10_count 1 = .ok (.istore_n 2, 1) := by decide +kernel
theorem dX10_count_2 : decode cX10_count 2 = .ok (.iconst 0, 1) := by decide +kernel
theorem dX10_count_3 : decode cX10_count 3 = .ok (.istore_n 3, 1) := by decide +kernel
theorem dX10_count_4 : decode cX10_count 4 = .ok (.iconst 0, 1) := by decide +kernel
theorem dX10_count_5 : decode cX10_count 5 = .ok (.istore 4, 2) := by decide +kernel
theorem dX10_count_7 : decode cX10_count 7 = .ok (.iconst 0, 1) := by decide +kernel
theorem dX10_count_8 : decode cX10_count 8 = .ok (.istore 5, 2) := by decide +kernel
theorem dX10_count_10 : decode cX10_count 10 = .ok (.iconst 0, 1) := by decide +kernel
theorem dX10_count_11 : decode cX10_count 11 = .ok (.istore 6, 2) := by decide +kernel
theorem dX10_count_13 : decode cX10_count 13 = .ok (.aload_n 0, 1) := by decide +kernel
theorem dX10_count_14 : decode cX10_count 14 = .ok (.getfield 32, 3) := by decide +kernel
theorem dX10_count_17 : decode cX10_count 17 = .ok (.invokevirtual 146, 3) := by decide +kernel
theorem dX10_count_20 : decode cX10_count 20 = .ok (.astore 7, 2) := by decide +kernel
theorem dX10_count_22 : decode cX10_count 22 = .ok (.aload 7, 2) := by decide +kernel
theorem dX10_count_24 : decode cX10_count 24 = .ok (.invokeinterface 150 1, 5) := by decide +kernel
theorem dX10_count_29 : decode cX10_count 29 = .ok (.ifCond .eq 68, 3) := by decide +kernel
theorem dX10_count_32 : decode cX10_count 32 = .ok (.aload 7, 2) := by decide +kernel
theorem dX10_count_34 : decode cX10_count 34 = .ok (.invokeinterface 156 1, 5) := by decide +kernel
theorem dX10_count_39 : decode cX10_count 39 = .ok (.checkcast 64, 3) := by decide +kernel
theorem dX10_count_42 : decode cX10_count 42 = .ok (.astore 8, 2) := by decide +kernel
theorem dX10_count_44 : decode cX10_count 44 = .ok (.iload_n 2, 1) := by decide +kernel
theorem dX10_count_45 : decode cX10_count 45 = .ok (.aload 8, 2) := by decide +kernel
theorem dX10_count_47 : decode cX10_count 47 = .ok (.getfield 140, 3) := by decide +kernel
theorem dX10_count_50 : decode cX10_count 50 = .ok (.ifCond .eq 7, 3) := by decide +kernel
theorem dX10_count_53 : decode cX10_count 53 = .ok (.iconst 1, 1) := by decide +kernel
theorem dX10_count_54 : decode cX10_count 54 = .ok (.goto 4, 3) := by decide +kernel
theorem dX10_count_57 : decode cX10_count 57 = .ok (.iconst 0, 1) := by decide +kernel
theorem dX10_count_58 : decode cX10_count 58 = .ok (.iadd, 1) := by decide +kernel
theorem dX10_count_59 : decode cX10_count 59 = .ok (.istore_n 2, 1) := by decide +kernel
theorem dX10_count_60 : decode cX10_count 60 = .ok (.iload_n 3, 1) := by decide +kernel
theorem dX10_count_61 : decode cX10_count 61 = .ok (.aload 8, 2) := by decide +kernel
theorem dX10_count_63 : decode cX10_count 63 = .ok (.iconst 2, 1) := by decide +kernel
theorem dX10_count_64 : decode cX10_count 64 = .ok (.invokevirtual 253, 3) := by decide +kernel
theorem dX10_count_67 : decode cX10_count 67 = .ok (.iadd, 1) := by decide +kernel
theorem dX10_count_68 : decode cX10_count 68 = .ok (.istore_n 3, 1) := by decide +kernel
theorem dX10_count_69 : decode cX10_count 69 = .ok (.iload 4, 2) := by decide +kernel
theorem dX10_count_71 : decode cX10_count 71 = .ok (.aload 8, 2) := by decide +kernel
theorem dX10_count_73 : decode cX10_count 73 = .ok (.iconst 1, 1) := by decide +kernel
theorem dX10_count_74 : decode cX10_count 74 = .ok (.invokevirtual 253, 3) := by decide +kernel
theorem dX10_count_77 : decode cX10_count 77 = .ok (.iadd, 1) := by decide +kernel
theorem dX10_count_78 : decode cX10_count 78 = .ok (.istore 4, 2) := by decide +kernel
theorem dX10_count_80 : decode cX10_count 80 = .ok (.iload 5, 2) := by decide +kernel
theorem dX10_count_82 : decode cX10_count 82 = .ok (.aload_n 0, 1) := by decide +kernel
theorem dX10_count_83 : decode cX10_count 83 = .ok (.aload 8, 2) := by decide +kernel
theorem dX10_count_85 : decode cX10_count 85 = .ok (.invokevirtual 272, 3) := by decide +kernel
theorem dX10_count_88 : decode cX10_count 88 = .ok (.invokestatic 69, 3) := by decide +kernel
theorem dX10_count_91 : decode cX10_count 91 = .ok (.iadd, 1) := by decide +kernel
theorem dX10_count_92 : decode cX10_count 92 = .ok (.istore 5, 2) := by decide +kernel
theorem dX10_count_94 : decode cX10_count 94 = .ok (.goto (-72), 3) := by decide +kernel
theorem dX10_count_97 : decode cX10_count 97 = .ok (.iconst 0, 1) := by decide +kernel
theorem dX10_count_98 : decode cX10_count 98 = .ok (.istore 7, 2) := by decide +kernel
theorem dX10_count_100 : decode cX10_count 100 = .ok (.iload 7, 2) := by decide +kernel
theorem dX10_count_102 : decode cX10_count 102 = .ok (.aload_n 0, 1) := by decide +kernel
theorem dX10_count_103 : decode cX10_count 103 = .ok (.getfield 29, 3) := by decide +kernel
theorem dX10_count_106 : decode cX10_count 106 = .ok (.invokevirtual 43, 3) := by decide +kernel
theorem dX10_count_109 : decode cX10_count 109 = .ok (.if_icmp .ge 20, 3) := by decide +kernel
theorem dX10_count_112 : decode cX10_count 112 = .ok (.iload 6, 2) := by decide +kernel
theorem dX10_count_114 : decode cX10_count 114 = .ok (.aload_n 0, 1) := by decide +kernel
theorem dX10_count_115 : decode cX10_count 115 = .ok (.iload 7, 2) := by decide +kernel
theorem dX10_count_117 : decode cX10_count 117 = .ok (.invokevirtual 163, 3) := by decide +kernel
theorem dX10_count_120 : decode cX10_count 120 = .ok (.iadd, 1) := by decide +kernel
theorem dX10_count_121 : decode cX10_count 121 = .ok (.istore 6, 2) := by decide +kernel
theorem dX10_count_123 : decode cX10_count 123 = .ok (.iinc 7 1, 3) := by decide +kernel
theorem dX10_count_126 : decode cX10_count 126 = .ok (.goto (-26), 3) := by decide +kernel
theorem dX10_count_129 : decode cX10_count 129 = .ok (.bipush 11, 2) := by decide +kernel
theorem dX10_count_131 : decode cX10_count 131 = .ok (.newarray .int, 2) := by decide +kernel
theorem dX10_count_133 : decode cX10_count 133 = .ok (.dup, 1) := by decide +kernel
theorem dX10_count_134 : decode cX10_count 134 = .ok (.iconst 0, 1) := by decide +kernel
theorem dX10_count_135 : decode cX10_count 135 = .ok (.aload_n 0, 1) := by decide +kernel
theorem dX10_count_136 : decode cX10_count 136 = .ok (.getfield 10, 3) := by decide +kernel
theorem dX10_count_139 : decode cX10_count 139 = .ok (.invokevirtual 43, 3) := by decide +kernel
theorem dX10_count_142 : decode cX10_count 142 = .ok (.iastore, 1) := by decide +kernel
theorem dX10_count_143 : decode cX10_count 143 = .ok (.dup, 1) := by decide +kernel
theorem dX10_count_144 : decode cX10_count 144 = .ok (.iconst 1, 1) := by decide +kernel
theorem dX10_count_145 : decode cX10_count 145 = .ok (.aload_n 0, 1) := by decide +kernel
theorem dX10_count_146 : decode cX10_count 146 = .ok (.getfield 20, 3) := by decide +kernel
theorem dX10_count_149 : decode cX10_count 149 = .ok (.invokevirtual 43, 3) := by decide +kernel
theorem dX10_count_152 : decode cX10_count 152 = .ok (.iastore, 1) := by decide +kernel
theorem dX10_count_153 : decode cX10_count 153 = .ok (.dup, 1) := by decide +kernel
theorem dX10_count_154 : decode cX10_count 154 = .ok (.iconst 2, 1) := by decide +kernel
theorem dX10_count_155 : decode cX10_count 155 = .ok (.aload_n 0, 1) := by decide +kernel
theorem dX10_count_156 : decode cX10_count 156 = .ok (.getfield 26, 3) := by decide +kernel
theorem dX10_count_159 : decode cX10_count 159 = .ok (.invokevirtual 43, 3) := by decide +kernel
theorem dX10_count_162 : decode cX10_count 162 = .ok (.iastore, 1) := by decide +kernel
theorem dX10_count_163 : decode cX10_count 163 = .ok (.dup, 1) := by decide +kernel
theorem dX10_count_164 : decode cX10_count 164 = .ok (.iconst 3, 1) := by decide +kernel
theorem dX10_count_165 : decode cX10_count 165 = .ok (.aload_n 0, 1) := by decide +kernel
theorem dX10_count_166 : decode cX10_count 166 = .ok (.getfield 29, 3) := by decide +kernel
theorem dX10_count_169 : decode cX10_count 169 = .ok (.invokevirtual 43, 3) := by decide +kernel
theorem dX10_count_172 : decode cX10_count 172 = .ok (.iastore, 1) := by decide +kernel
theorem dX10_count_173 : decode cX10_count 173 = .ok (.dup, 1) := by decide +kernel
theorem dX10_count_174 : decode cX10_count 174 = .ok (.iconst 4, 1) := by decide +kernel
theorem dX10_count_175 : decode cX10_count 175 = .ok (.aload_n 0, 1) := by decide +kernel
theorem dX10_count_176 : decode cX10_count 176 = .ok (.getfield 32, 3) := by decide +kernel
theorem dX10_count_179 : decode cX10_count 179 = .ok (.invokevirtual 43, 3) := by decide +kernel
theorem dX10_count_182 : decode cX10_count 182 = .ok (.iastore, 1) := by decide +kernel
theorem dX10_count_183 : decode cX10_count 183 = .ok (.dup, 1) := by decide +kernel
theorem dX10_count_184 : decode cX10_count 184 = .ok (.iconst 5, 1) := by decide +kernel
theorem dX10_count_185 : decode cX10_count 185 = .ok (.iload_n 2, 1) := by decide +kernel
theorem dX10_count_186 : decode cX10_count 186 = .ok (.iastore, 1) := by decide +kernel
theorem dX10_count_187 : decode cX10_count 187 = .ok (.dup, 1) := by decide +kernel
theorem dX10_count_188 : decode cX10_count 188 = .ok (.bipush 6, 2) := by decide +kernel
theorem dX10_count_190 : decode cX10_count 190 = .ok (.iload_n 3, 1) := by decide +kernel
theorem dX10_count_191 : decode cX10_count 191 = .ok (.iastore, 1) := by decide +kernel
theorem dX10_count_192 : decode cX10_count 192 = .ok (.dup, 1) := by decide +kernel
theorem dX10_count_193 : decode cX10_count 193 = .ok (.bipush 7, 2) := by decide +kernel
theorem dX10_count_195 : decode cX10_count 195 = .ok (.iload 4, 2) := by decide +kernel
theorem dX10_count_197 : decode cX10_count 197 = .ok (.iastore, 1) := by decide +kernel
theorem dX10_count_198 : decode cX10_count 198 = .ok (.dup, 1) := by decide +kernel
theorem dX10_count_199 : decode cX10_count 199 = .ok (.bipush 8, 2) := by decide +kernel
theorem dX10_count_201 : decode cX10_count 201 = .ok (.iload 5, 2) := by decide +kernel
theorem dX10_count_203 : decode cX10_count 203 = .ok (.iastore, 1) := by decide +kernel
theorem dX10_count_204 : decode cX10_count 204 = .ok (.dup, 1) := by decide +kernel
theorem dX10_count_205 : decode cX10_count 205 = .ok (.bipush 9, 2) := by decide +kernel
theorem dX10_count_207 : decode cX10_count 207 = .ok (.iload 6, 2) := by decide +kernel
theorem dX10_count_209 : decode cX10_count 209 = .ok (.iastore, 1) := by decide +kernel
theorem dX10_count_210 : decode cX10_count 210 = .ok (.dup, 1) := by decide +kernel
theorem dX10_count_211 : decode cX10_count 211 = .ok (.bipush 10, 2) := by decide +kernel
theorem dX10_count_213 : decode cX10_count 213 = .ok (.aload_n 0, 1) := by decide +kernel
theorem dX10_count_214 : decode cX10_count 214 = .ok (.getfield 103, 3) := by decide +kernel
theorem dX10_count_217 : decode cX10_count 217 = .ok (.iastore, 1) := by decide +kernel
theorem dX10_count_218 : decode cX10_count 218 = .ok (.astore 7, 2) := by decide +kernel
theorem dX10_count_220 : decode cX10_count 220 = .ok (.aload 7, 2) := by decide +kernel
theorem dX10_count_222 : decode cX10_count 222 = .ok (.iload_n 1, 1) := by decide +kernel
theorem dX10_count_223 : decode cX10_count 223 = .ok (.iaload, 1) := by decide +kernel
theorem dX10_count_224 : decode cX10_count 224 = .ok (.ireturn, 1) := by decide +kernel
theorem dX10_many_0 : decode cX10_many 0 = .ok (.aload_n 0, 1) := by decide +kernel
theorem dX10_many_1 : decode cX10_many 1 = .ok (.iload_n 1, 1) := by decide +kernel
theorem dX10_many_2 : decode cX10_many 2 = .ok (.iconst 0, 1) := by decide +kernel
theorem dX10_many_3 : decode cX10_many 3 = .ok (.bipush 10, 2) := by decide +kernel
theorem dX10_many_5 : decode cX10_many 5 = .ok (.invokestatic 47, 3) := by decide +kernel
theorem dX10_many_8 : decode cX10_many 8 = .ok (.ifCond .ne 7, 3) := by decide +kernel
theorem dX10_many_11 : decode cX10_many 11 = .ok (.iconst 1, 1) := by decide +kernel
theorem dX10_many_12 : decode cX10_many 12 = .ok (.goto 4, 3) := by decide +kernel
theorem dX10_many_15 : decode cX10_many 15 = .ok (.iconst 0, 1) := by decide +kernel
theorem dX10_many_16 : decode cX10_many 16 = .ok (.iconst 1, 1) := by decide +kernel
theorem dX10_many_17 : decode cX10_many 17 = .ok (.invokevirtual 186, 3) := by decide +kernel
theorem dX10_many_20 : decode cX10_many 20 = .ok (.ifCond .eq 7, 3) := by decide +kernel
theorem dX10_many_23 : decode cX10_many 23 = .ok (.iconst 0, 1) := by decide +kernel
theorem dX10_many_24 : decode cX10_many 24 = .ok (.goto 8, 3) := by decide +kernel
theorem dX10_many_27 : decode cX10_many 27 = .ok (.aload_n 0, 1) := by decide +kernel
theorem dX10_many_28 : decode cX10_many 28 = .ok (.iload_n 1, 1) := by decide +kernel
theorem dX10_many_29 : decode cX10_many 29 = .ok (.invokevirtual 282, 3) := by decide +kernel
theorem dX10_many_32 : decode cX10_many 32 = .ok (.ireturn, 1) := by decide +kernel
theorem dX10_meanDays_0 : decode cX10_meanDays 0 = .ok (.aload_n 0, 1) := by decide +kernel
theorem dX10_meanDays_1 : decode cX10_meanDays 1 = .ok (.iconst 0, 1) := by decide +kernel
theorem dX10_meanDays_2 : decode cX10_meanDays 2 = .ok (.putfield 35, 3) := by decide +kernel
theorem dX10_meanDays_5 : decode cX10_meanDays 5 = .ok (.iconst 0, 1) := by decide +kernel
theorem dX10_meanDays_6 : decode cX10_meanDays 6 = .ok (.istore_n 1, 1) := by decide +kernel
theorem dX10_meanDays_7 : decode cX10_meanDays 7 = .ok (.iconst 0, 1) := by decide +kernel
theorem dX10_meanDays_8 : decode cX10_meanDays 8 = .ok (.istore_n 2, 1) := by decide +kernel
theorem dX10_meanDays_9 : decode cX10_meanDays 9 = .ok (.aload_n 0, 1) := by decide +kernel
theorem dX10_meanDays_10 : decode cX10_meanDays 10 = .ok (.getfield 32, 3) := by decide +kernel
theorem dX10_meanDays_13 : decode cX10_meanDays 13 = .ok (.invokevirtual 146, 3) := by decide +kernel
theorem dX10_meanDays_16 : decode cX10_meanDays 16 = .ok (.astore_n 3, 1) := by decide +kernel
theorem dX10_meanDays_17 : decode cX10_meanDays 17 = .ok (.aload_n 3, 1) := by decide +kernel
theorem dX10_meanDays_18 : decode cX10_meanDays 18 = .ok (.invokeinterface 150 1, 5) := by decide +kernel
theorem dX10_meanDays_23 : decode cX10_meanDays 23 = .ok (.ifCond .eq 48, 3) := by decide +kernel
theorem dX10_meanDays_26 : decode cX10_meanDays 26 = .ok (.aload_n 3, 1) := by decide +kernel
theorem dX10_meanDays_27 : decode cX10_meanDays 27 = .ok (.invokeinterface 156 1, 5) := by decide +kernel
theorem dX10_meanDays_32 : decode cX10_meanDays 32 = .ok (.checkcast 64, 3) := by decide +kernel
theorem dX10_meanDays_35 : decode cX10_meanDays 35 = .ok (.astore 4, 2) := by decide +kernel
theorem dX10_meanDays_37 : decode cX10_meanDays 37 = .ok (.aload_n 0, 1) := by decide +kernel
theorem dX10_meanDays_38 : decode cX10_meanDays 38 = .ok (.aload 4, 2) := by decide +kernel
theorem dX10_meanDays_40 : decode cX10_meanDays 40 = .ok (.invokevirtual 276, 3) := by decide +kernel
theorem dX10_meanDays_43 : decode cX10_meanDays 43 = .ok (.istore 5, 2) := by decide +kernel
theorem dX10_meanDays_45 : decode cX10_meanDays 45 = .ok (.iload 5, 2) := by decide +kernel
theorem dX10_meanDays_47 : decode cX10_meanDays 47 = .ok (.iconst (-1), 1) := by decide +kernel
theorem dX10_meanDays_48 : decode cX10_meanDays 48 = .ok (.if_icmp .ne 6, 3) := by decide +kernel
theorem dX10_meanDays_51 : decode cX10_meanDays 51 = .ok (.goto (-34), 3) := by decide +kernel
theorem dX10_meanDays_54 : decode cX10_meanDays 54 = .ok (.iinc 1 1, 3) := by decide +kernel
theorem dX10_meanDays_57 : decode cX10_meanDays 57 = .ok (.iload_n 2, 1) := by decide +kernel
theorem dX10_meanDays_58 : decode cX10_meanDays 58 = .ok (.iload 5, 2) := by decide +kernel
theorem dX10_meanDays_60 : decode cX10_meanDays 60 = .ok (.aload 4, 2) := by decide +kernel
theorem dX10_meanDays_62 : decode cX10_meanDays 62 = .ok (.getfield 106, 3) := by decide +kernel
theorem dX10_meanDays_65 : decode cX10_meanDays 65 = .ok (.isub, 1) := by decide +kernel
theorem dX10_meanDays_66 : decode cX10_meanDays 66 = .ok (.iadd, 1) := by decide +kernel
theorem dX10_meanDays_67 : decode cX10_meanDays 67 = .ok (.istore_n 2, 1) := by decide +kernel
theorem dX10_meanDays_68 : decode cX10_meanDays 68 = .ok (.goto (-51), 3) := by decide +kernel
theorem dX10_meanDays_71 : decode cX10_meanDays 71 = .ok (.iload_n 1, 1) := by decide +kernel
theorem dX10_meanDays_72 : decode cX10_meanDays 72 = .ok (.ifCond .ne 7, 3) := by decide +kernel
theorem dX10_meanDays_75 : decode cX10_meanDays 75 = .ok (.dconst 0, 1) := by decide +kernel
theorem dX10_meanDays_76 : decode cX10_meanDays 76 = .ok (.goto 8, 3) := by decide +kernel
theorem dX10_meanDays_79 : decode cX10_meanDays 79 = .ok (.iload_n 2, 1) := by decide +kernel
theorem dX10_meanDays_80 : decode cX10_meanDays 80 = .ok (.i2d, 1) := by decide +kernel
theorem dX10_meanDays_81 : decode cX10_meanDays 81 = .ok (.iload_n 1, 1) := by decide +kernel
theorem dX10_meanDays_82 : decode cX10_meanDays 82 = .ok (.i2d, 1) := by decide +kernel
theorem dX10_meanDays_83 : decode cX10_meanDays 83 = .ok (.ddiv, 1) := by decide +kernel
theorem dX10_meanDays_84 : decode cX10_meanDays 84 = .ok (.dreturn, 1) := by decide +kernel
theorem dX10_rightOnNow_0 : decode cX10_rightOnNow 0 = .ok (.aload_n 0, 1) := by decide +kernel
theorem dX10_rightOnNow_1 : decode cX10_rightOnNow 1 = .ok (.getfield 20, 3) := by decide +kernel
theorem dX10_rightOnNow_4 : decode cX10_rightOnNow 4 = .ok (.iload_n 2, 1) := by decide +kernel
theorem dX10_rightOnNow_5 : decode cX10_rightOnNow 5 = .ok (.invokevirtual 51, 3) := by decide +kernel
theorem dX10_rightOnNow_8 : decode cX10_rightOnNow 8 = .ok (.checkcast 70, 3) := by decide +kernel
theorem dX10_rightOnNow_11 : decode cX10_rightOnNow 11 = .ok (.invokevirtual 266, 3) := by decide +kernel
theorem dX10_rightOnNow_14 : decode cX10_rightOnNow 14 = .ok (.istore_n 3, 1) := by decide +kernel
theorem dX10_rightOnNow_15 : decode cX10_rightOnNow 15 = .ok (.aload_n 1, 1) := by decide +kernel
theorem dX10_rightOnNow_16 : decode cX10_rightOnNow 16 = .ok (.getfield 140, 3) := by decide +kernel
theorem dX10_rightOnNow_19 : decode cX10_rightOnNow 19 = .ok (.ifCond .ne 14, 3) := by decide +kernel
theorem dX10_rightOnNow_22 : decode cX10_rightOnNow 22 = .ok (.iload_n 3, 1) := by decide +kernel
theorem dX10_rightOnNow_23 : decode cX10_rightOnNow 23 = .ok (.aload_n 1, 1) := by decide +kernel
theorem dX10_rightOnNow_24 : decode cX10_rightOnNow 24 = .ok (.getfield 118, 3) := by decide +kernel
theorem dX10_rightOnNow_27 : decode cX10_rightOnNow 27 = .ok (.iconst (-1), 1) := by decide +kernel
theorem dX10_rightOnNow_28 : decode cX10_rightOnNow 28 = .ok (.ixor, 1) := by decide +kernel
theorem dX10_rightOnNow_29 : decode cX10_rightOnNow 29 = .ok (.iand, 1) := by decide +kernel
theorem dX10_rightOnNow_30 : decode cX10_rightOnNow 30 = .ok (.ifCond .eq 5, 3) := by decide +kernel
theorem dX10_rightOnNow_33 : decode cX10_rightOnNow 33 = .ok (.iconst (-1), 1) := by decide +kernel
theorem dX10_rightOnNow_34 : decode cX10_rightOnNow 34 = .ok (.ireturn, 1) := by decide +kernel
theorem dX10_rightOnNow_35 : decode cX10_rightOnNow 35 = .ok (.aload_n 0, 1) := by decide +kernel
theorem dX10_rightOnNow_36 : decode cX10_rightOnNow 36 = .ok (.aload_n 1, 1) := by decide +kernel
theorem dX10_rightOnNow_37 : decode cX10_rightOnNow 37 = .ok (.iload_n 3, 1) := by decide +kernel
theorem dX10_rightOnNow_38 : decode cX10_rightOnNow 38 = .ok (.i2l, 1) := by decide +kernel
theorem dX10_rightOnNow_39 : decode cX10_rightOnNow 39 = .ok (.invokevirtual 143, 3) := by decide +kernel
theorem dX10_rightOnNow_42 : decode cX10_rightOnNow 42 = .ok (.istore 4, 2) := by decide +kernel
theorem dX10_rightOnNow_44 : decode cX10_rightOnNow 44 = .ok (.iload 4, 2) := by decide +kernel
theorem dX10_rightOnNow_46 : decode cX10_rightOnNow 46 = .ok (.iconst (-1), 1) := by decide +kernel
theorem dX10_rightOnNow_47 : decode cX10_rightOnNow 47 = .ok (.if_icmp .ne 7, 3) := by decide +kernel
theorem dX10_rightOnNow_50 : decode cX10_rightOnNow 50 = .ok (.iconst (-1), 1) := by decide +kernel
theorem dX10_rightOnNow_51 : decode cX10_rightOnNow 51 = .ok (.goto 7, 3) := by decide +kernel
theorem dX10_rightOnNow_54 : decode cX10_rightOnNow 54 = .ok (.iload 4, 2) := by decide +kernel
theorem dX10_rightOnNow_56 : decode cX10_rightOnNow 56 = .ok (.iconst 1, 1) := by decide +kernel
theorem dX10_rightOnNow_57 : decode cX10_rightOnNow 57 = .ok (.iadd, 1) := by decide +kernel
theorem dX10_rightOnNow_58 : decode cX10_rightOnNow 58 = .ok (.ireturn, 1) := by decide +kernel
theorem dX10_rightOn_0 : decode cX10_rightOn 0 = .ok (.aload_n 0, 1) := by decide +kernel
theorem dX10_rightOn_1 : decode cX10_rightOn 1 = .ok (.iload_n 1, 1) := by decide +kernel
theorem dX10_rightOn_2 : decode cX10_rightOn 2 = .ok (.invokevirtual 250, 3) := by decide +kernel
theorem dX10_rightOn_5 : decode cX10_rightOn 5 = .ok (.ifCond .ne 33, 3) := by decide +kernel
theorem dX10_rightOn_8 : decode cX10_rightOn 8 = .ok (.aload_n 0, 1) := by decide +kernel
theorem dX10_rightOn_9 : decode cX10_rightOn 9 = .ok (.iload_n 2, 1) := by decide +kernel
theorem dX10_rightOn_10 : decode cX10_rightOn 10 = .ok (.iconst 0, 1) := by decide +kernel
theorem dX10_rightOn_11 : decode cX10_rightOn 11 = .ok (.aload_n 0, 1) := by decide +kernel
theorem dX10_rightOn_12 : decode cX10_rightOn 12 = .ok (.getfield 20, 3) := by decide +kernel
theorem dX10_rightOn_15 : decode cX10_rightOn 15 = .ok (.invokevirtual 43, 3) := by decide +kernel
theorem dX10_rightOn_18 : decode cX10_rightOn 18 = .ok (.iconst 1, 1) := by decide +kernel
theorem dX10_rightOn_19 : decode cX10_rightOn 19 = .ok (.isub, 1) := by decide +kernel
theorem dX10_rightOn_20 : decode cX10_rightOn 20 = .ok (.invokestatic 47, 3) := by decide +kernel
theorem dX10_rightOn_23 : decode cX10_rightOn 23 = .ok (.ifCond .ne 7, 3) := by decide +kernel
theorem dX10_rightOn_26 : decode cX10_rightOn 26 = .ok (.iconst 1, 1) := by decide +kernel
theorem dX10_rightOn_27 : decode cX10_rightOn 27 = .ok (.goto 4, 3) := by decide +kernel
theorem dX10_rightOn_30 : decode cX10_rightOn 30 = .ok (.iconst 0, 1) := by decide +kernel
theorem dX10_rightOn_31 : decode cX10_rightOn 31 = .ok (.iconst 1, 1) := by decide +kernel
theorem dX10_rightOn_32 : decode cX10_rightOn 32 = .ok (.invokevirtual 39, 3) := by decide +kernel
theorem dX10_rightOn_35 : decode cX10_rightOn 35 = .ok (.ifCond .eq 7, 3) := by decide +kernel
theorem dX10_rightOn_38 : decode cX10_rightOn 38 = .ok (.iconst 0, 1) := by decide +kernel
theorem dX10_rightOn_39 : decode cX10_rightOn 39 = .ok (.goto 19, 3) := by decide +kernel
theorem dX10_rightOn_42 : decode cX10_rightOn 42 = .ok (.aload_n 0, 1) := by decide +kernel
theorem dX10_rightOn_43 : decode cX10_rightOn 43 = .ok (.aload_n 0, 1) := by decide +kernel
theorem dX10_rightOn_44 : decode cX10_rightOn 44 = .ok (.getfield 32, 3) := by decide +kernel
theorem dX10_rightOn_47 : decode cX10_rightOn 47 = .ok (.iload_n 1, 1) := by decide +kernel
theorem dX10_rightOn_48 : decode cX10_rightOn 48 = .ok (.invokevirtual 51, 3) := by decide +kernel
theorem dX10_rightOn_51 : decode cX10_rightOn 51 = .ok (.checkcast 64, 3) := by decide +kernel
theorem dX10_rightOn_54 : decode cX10_rightOn 54 = .ok (.iload_n 2, 1) := by decide +kernel
theorem dX10_rightOn_55 : decode cX10_rightOn 55 = .ok (.invokevirtual 285, 3) := by decide +kernel
theorem dX10_rightOn_58 : decode cX10_rightOn 58 = .ok (.ireturn, 1) := by decide +kernel
theorem dX10_shiftBy_0 : decode cX10_shiftBy 0 = .ok (.aload_n 0, 1) := by decide +kernel
theorem dX10_shiftBy_1 : decode cX10_shiftBy 1 = .ok (.iload_n 1, 1) := by decide +kernel
theorem dX10_shiftBy_2 : decode cX10_shiftBy 2 = .ok (.iload_n 2, 1) := by decide +kernel
theorem dX10_shiftBy_3 : decode cX10_shiftBy 3 = .ok (.invokevirtual 234, 3) := by decide +kernel
theorem dX10_shiftBy_6 : decode cX10_shiftBy 6 = .ok (.ifCond .eq 5, 3) := by decide +kernel
theorem dX10_shiftBy_9 : decode cX10_shiftBy 9 = .ok (.iconst 0, 1) := by decide +kernel
theorem dX10_shiftBy_10 : decode cX10_shiftBy 10 = .ok (.ireturn, 1) := by decide +kernel
theorem dX10_shiftBy_11 : decode cX10_shiftBy 11 = .ok (.aload_n 0, 1) := by decide +kernel
theorem dX10_shiftBy_12 : decode cX10_shiftBy 12 = .ok (.getfield 32, 3) := by decide +kernel
theorem dX10_shiftBy_15 : decode cX10_shiftBy 15 = .ok (.invokevirtual 43, 3) := by decide +kernel
theorem dX10_shiftBy_18 : decode cX10_shiftBy 18 = .ok (.newarray .int, 2) := by decide +kernel
theorem dX10_shiftBy_20 : decode cX10_shiftBy 20 = .ok (.astore_n 3, 1) := by decide +kernel
theorem dX10_shiftBy_21 : decode cX10_shiftBy 21 = .ok (.iconst 0, 1) := by decide +kernel
theorem dX10_shiftBy_22 : decode cX10_shiftBy 22 = .ok (.istore 4, 2) := by decide +kernel
theorem dX10_shiftBy_24 : decode cX10_shiftBy 24 = .ok (.iload 4, 2) := by decide +kernel
theorem dX10_shiftBy_26 : decode cX10_shiftBy 26 = .ok (.aload_n 3, 1) := by decide +kernel
theorem dX10_shiftBy_27 : decode cX10_shiftBy 27 = .ok (.arraylength, 1) := by decide +kernel
theorem dX10_shiftBy_28 : decode cX10_shiftBy 28 = .ok (.if_icmp .ge 29, 3) := by decide +kernel
theorem dX10_shiftBy_31 : decode cX10_shiftBy 31 = .ok (.aload_n 3, 1) := by decide +kernel
theorem dX10_shiftBy_32 : decode cX10_shiftBy 32 = .ok (.iload 4, 2) := by decide +kernel
theorem dX10_shiftBy_34 : decode cX10_shiftBy 34 = .ok (.aload_n 0, 1) := by decide +kernel
theorem dX10_shiftBy_35 : decode cX10_shiftBy 35 = .ok (.aload_n 0, 1) := by decide +kernel
theorem dX10_shiftBy_36 : decode cX10_shiftBy 36 = .ok (.getfield 32, 3) := by decide +kernel
theorem dX10_shiftBy_39 : decode cX10_shiftBy 39 = .ok (.iload 4, 2) := by decide +kernel
theorem dX10_shiftBy_41 : decode cX10_shiftBy 41 = .ok (.invokevirtual 51, 3) := by decide +kernel
theorem dX10_shiftBy_44 : decode cX10_shiftBy 44 = .ok (.checkcast 64, 3) := by decide +kernel
theorem dX10_shiftBy_47 : decode cX10_shiftBy 47 = .ok (.invokevirtual 276, 3) := by decide +kernel
theorem dX10_shiftBy_50 : decode cX10_shiftBy 50 = .ok (.iastore, 1) := by decide +kernel
theorem dX10_shiftBy_51 : decode cX10_shiftBy 51 = .ok (.iinc 4 1, 3) := by decide +kernel
theorem dX10_shiftBy_54 : decode cX10_shiftBy 54 = .ok (.goto (-30), 3) := by decide +kernel
theorem dX10_shiftBy_57 : decode cX10_shiftBy 57 = .ok (.aload_n 0, 1) := by decide +kernel
theorem dX10_shiftBy_58 : decode cX10_shiftBy 58 = .ok (.getfield 26, 3) := by decide +kernel
theorem dX10_shiftBy_61 : decode cX10_shiftBy 61 = .ok (.iload_n 1, 1) := by decide +kernel
theorem dX10_shiftBy_62 : decode cX10_shiftBy 62 = .ok (.invokevirtual 51, 3) := by decide +kernel
theorem dX10_shiftBy_65 : decode cX10_shiftBy 65 = .ok (.checkcast 88, 3) := by decide +kernel
theorem dX10_shiftBy_68 : decode cX10_shiftBy 68 = .ok (.dup, 1) := by decide +kernel
theorem dX10_shiftBy_69 : decode cX10_shiftBy 69 = .ok (.getfield 97, 3) := by decide +kernel
theorem dX10_shiftBy_72 : decode cX10_shiftBy 72 = .ok (.iload_n 2, 1) := by decide +kernel
theorem dX10_shiftBy_73 : decode cX10_shiftBy 73 = .ok (.iadd, 1) := by decide +kernel
theorem dX10_shiftBy_74 : decode cX10_shiftBy 74 = .ok (.putfield 97, 3) := by decide +kernel
theorem dX10_shiftBy_77 : decode cX10_shiftBy 77 = .ok (.iconst 0, 1) := by decide +kernel
theorem dX10_shiftBy_78 : decode cX10_shiftBy 78 = .ok (.istore 4, 2) := by decide +kernel
theorem dX10_shiftBy_80 : decode cX10_shiftBy 80 = .ok (.iconst 0, 1) := by decide +kernel
theorem dX10_shiftBy_81 : decode cX10_shiftBy 81 = .ok (.istore 5, 2) := by decide +kernel
theorem dX10_shiftBy_83 : decode cX10_shiftBy 83 = .ok (.iload 5, 2) := by decide +kernel
theorem dX10_shiftBy_85 : decode cX10_shiftBy 85 = .ok (.aload_n 3, 1) := by decide +kernel
theorem dX10_shiftBy_86 : decode cX10_shiftBy 86 = .ok (.arraylength, 1) := by decide +kernel
theorem dX10_shiftBy_87 : decode cX10_shiftBy 87 = .ok (.if_icmp .ge 63, 3) := by decide +kernel
theorem dX10_shiftBy_90 : decode cX10_shiftBy 90 = .ok (.aload_n 3, 1) := by decide +kernel
theorem dX10_shiftBy_91 : decode cX10_shiftBy 91 = .ok (.iload 5, 2) := by decide +kernel
theorem dX10_shiftBy_93 : decode cX10_shiftBy 93 = .ok (.iaload, 1) := by decide +kernel
theorem dX10_shiftBy_94 : decode cX10_shiftBy 94 = .ok (.iconst (-1), 1) := by decide +kernel
theorem dX10_shiftBy_95 : decode cX10_shiftBy 95 = .ok (.if_icmp .eq 49, 3) := by decide +kernel
theorem dX10_shiftBy_98 : decode cX10_shiftBy 98 = .ok (.aload_n 0, 1) := by decide +kernel
theorem dX10_shiftBy_99 : decode cX10_shiftBy 99 = .ok (.aload_n 0, 1) := by decide +kernel
theorem dX10_shiftBy_100 : decode cX10_shiftBy 100 = .ok (.getfield 32, 3) := by decide +kernel
theorem dX10_shiftBy_103 : decode cX10_shiftBy 103 = .ok (.iload 5, 2) := by decide +kernel
theorem dX10_shiftBy_105 : decode cX10_shiftBy 105 = .ok (.invokevirtual 51, 3) := by decide +kernel
theorem dX10_shiftBy_108 : decode cX10_shiftBy 108 = .ok (.checkcast 64, 3) := by decide +kernel
theorem dX10_shiftBy_111 : decode cX10_shiftBy 111 = .ok (.invokevirtual 276, 3) := by decide +kernel
theorem dX10_shiftBy_114 : decode cX10_shiftBy 114 = .ok (.iconst (-1), 1) := by decide +kernel
theorem dX10_shiftBy_115 : decode cX10_shiftBy 115 = .ok (.if_icmp .eq 29, 3) := by decide +kernel
theorem dX10_shiftBy_118 : decode cX10_shiftBy 118 = .ok (.iload 4, 2) := by decide +kernel
theorem dX10_shiftBy_120 : decode cX10_shiftBy 120 = .ok (.aload_n 0, 1) := by decide +kernel
theorem dX10_shiftBy_121 : decode cX10_shiftBy 121 = .ok (.aload_n 0, 1) := by decide +kernel
theorem dX10_shiftBy_122 : decode cX10_shiftBy 122 = .ok (.getfield 32, 3) := by decide +kernel
theorem dX10_shiftBy_125 : decode cX10_shiftBy 125 = .ok (.iload 5, 2) := by decide +kernel
theorem dX10_shiftBy_127 : decode cX10_shiftBy 127 = .ok (.invokevirtual 51, 3) := by decide +kernel
theorem dX10_shiftBy_130 : decode cX10_shiftBy 130 = .ok (.checkcast 64, 3) := by decide +kernel
theorem dX10_shiftBy_133 : decode cX10_shiftBy 133 = .ok (.invokevirtual 276, 3) := by decide +kernel
theorem dX10_shiftBy_136 : decode cX10_shiftBy 136 = .ok (.aload_n 3, 1) := by decide +kernel
theorem dX10_shiftBy_137 : decode cX10_shiftBy 137 = .ok (.iload 5, 2) := by decide +kernel
theorem dX10_shiftBy_139 : decode cX10_shiftBy 139 = .ok (.iaload, 1) := by decide +kernel
theorem dX10_shiftBy_140 : decode cX10_shiftBy 140 = .ok (.isub, 1) := by decide +kernel
theorem dX10_shiftBy_141 : decode cX10_shiftBy 141 = .ok (.iadd, 1) := by decide +kernel
theorem dX10_shiftBy_142 : decode cX10_shiftBy 142 = .ok (.istore 4, 2) := by decide +kernel
theorem dX10_shiftBy_144 : decode cX10_shiftBy 144 = .ok (.iinc 5 1, 3) := by decide +kernel
theorem dX10_shiftBy_147 : decode cX10_shiftBy 147 = .ok (.goto (-64), 3) := by decide +kernel
theorem dX10_shiftBy_150 : decode cX10_shiftBy 150 = .ok (.aload_n 0, 1) := by decide +kernel
theorem dX10_shiftBy_151 : decode cX10_shiftBy 151 = .ok (.getfield 26, 3) := by decide +kernel
theorem dX10_shiftBy_154 : decode cX10_shiftBy 154 = .ok (.iload_n 1, 1) := by decide +kernel
theorem dX10_shiftBy_155 : decode cX10_shiftBy 155 = .ok (.invokevirtual 51, 3) := by decide +kernel
theorem dX10_shiftBy_158 : decode cX10_shiftBy 158 = .ok (.checkcast 88, 3) := by decide +kernel
theorem dX10_shiftBy_161 : decode cX10_shiftBy 161 = .ok (.dup, 1) := by decide +kernel
theorem dX10_shiftBy_162 : decode cX10_shiftBy 162 = .ok (.getfield 97, 3) := by decide +kernel
theorem dX10_shiftBy_165 : decode cX10_shiftBy 165 = .ok (.iload_n 2, 1) := by decide +kernel
theorem dX10_shiftBy_166 : decode cX10_shiftBy 166 = .ok (.isub, 1) := by decide +kernel
theorem dX10_shiftBy_167 : decode cX10_shiftBy 167 = .ok (.putfield 97, 3) := by decide +kernel
theorem dX10_shiftBy_170 : decode cX10_shiftBy 170 = .ok (.iload 4, 2) := by decide +kernel
theorem dX10_shiftBy_172 : decode cX10_shiftBy 172 = .ok (.ireturn, 1) := by decide +kernel
theorem dX10_nextNow_0 : decode cX10_nextNow 0 = .ok (.iconst 0, 1) := by decide +kernel
theorem dX10_nextNow_1 : decode cX10_nextNow 1 = .ok (.istore_n 2, 1) := by decide +kernel
theorem dX10_nextNow_2 : decode cX10_nextNow 2 = .ok (.iload_n 2, 1) := by decide +kernel
theorem dX10_nextNow_3 : decode cX10_nextNow 3 = .ok (.aload_n 0, 1) := by decide +kernel
theorem dX10_nextNow_4 : decode cX10_nextNow 4 = .ok (.getfield 10, 3) := by decide +kernel
theorem dX10_nextNow_7 : decode cX10_nextNow 7 = .ok (.invokevirtual 43, 3) := by decide +kernel
theorem dX10_nextNow_10 : decode cX10_nextNow 10 = .ok (.if_icmp .ge 57, 3) := by decide +kernel
theorem dX10_nextNow_13 : decode cX10_nextNow 13 = .ok (.aload_n 1, 1) := by decide +kernel
theorem dX10_nextNow_14 : decode cX10_nextNow 14 = .ok (.getfield 140, 3) := by decide +kernel
theorem dX10_nextNow_17 : decode cX10_nextNow 17 = .ok (.ifCond .ne 44, 3) := by decide +kernel
theorem dX10_nextNow_20 : decode cX10_nextNow 20 = .ok (.aload_n 1, 1) := by decide +kernel
theorem dX10_nextNow_21 : decode cX10_nextNow 21 = .ok (.iload_n 2, 1) := by decide +kernel
theorem dX10_nextNow_22 : decode cX10_nextNow 22 = .ok (.iconst 0, 1) := by decide +kernel
theorem dX10_nextNow_23 : decode cX10_nextNow 23 = .ok (.invokevirtual 63, 3) := by decide +kernel
theorem dX10_nextNow_26 : decode cX10_nextNow 26 = .ok (.ifCond .ne 12, 3) := by decide +kernel
theorem dX10_nextNow_29 : decode cX10_nextNow 29 = .ok (.aload_n 1, 1) := by decide +kernel
theorem dX10_nextNow_30 : decode cX10_nextNow 30 = .ok (.iload_n 2, 1) := by decide +kernel
theorem dX10_nextNow_31 : decode cX10_nextNow 31 = .ok (.iconst 1, 1) := by decide +kernel
theorem dX10_nextNow_32 : decode cX10_nextNow 32 = .ok (.invokevirtual 63, 3) := by decide +kernel
theorem dX10_nextNow_35 : decode cX10_nextNow 35 = .ok (.ifCond .eq 26, 3) := by decide +kernel
theorem dX10_nextNow_38 : decode cX10_nextNow 38 = .ok (.aload_n 1, 1) := by decide +kernel
theorem dX10_nextNow_39 : decode cX10_nextNow 39 = .ok (.aload_n 0, 1) := by decide +kernel
theorem dX10_nextNow_40 : decode cX10_nextNow 40 = .ok (.getfield 10, 3) := by decide +kernel
theorem dX10_nextNow_43 : decode cX10_nextNow 43 = .ok (.iload_n 2, 1) := by decide +kernel
theorem dX10_nextNow_44 : decode cX10_nextNow 44 = .ok (.invokevirtual 51, 3) := by decide +kernel
theorem dX10_nextNow_47 : decode cX10_nextNow 47 = .ok (.checkcast 55, 3) := by decide +kernel
theorem dX10_nextNow_50 : decode cX10_nextNow 50 = .ok (.getfield 115, 3) := by decide +kernel
theorem dX10_nextNow_53 : decode cX10_nextNow 53 = .ok (.invokevirtual 172, 3) := by decide +kernel
theorem dX10_nextNow_56 : decode cX10_nextNow 56 = .ok (.ifCond .eq 5, 3) := by decide +kernel
theorem dX10_nextNow_59 : decode cX10_nextNow 59 = .ok (.iload_n 2, 1) := by decide +kernel
theorem dX10_nextNow_60 : decode cX10_nextNow 60 = .ok (.ireturn, 1) := by decide +kernel
theorem dX10_nextNow_61 : decode cX10_nextNow 61 = .ok (.iinc 2 1, 3) := by decide +kernel
theorem dX10_nextNow_64 : decode cX10_nextNow 64 = .ok (.goto (-62), 3) := by decide +kernel
theorem dX10_nextNow_67 : decode cX10_nextNow 67 = .ok (.iconst (-1), 1) := by decide +kernel
theorem dX10_nextNow_68 : decode cX10_nextNow 68 = .ok (.ireturn, 1) := by decide +kernel
theorem dX10_next_0 : decode cX10_next 0 = .ok (.aload_n 0, 1) := by decide +kernel
theorem dX10_next_1 : decode cX10_next 1 = .ok (.iload_n 1, 1) := by decide +kernel
theorem dX10_next_2 : decode cX10_next 2 = .ok (.invokevirtual 250, 3) := by decide +kernel
theorem dX10_next_5 : decode cX10_next 5 = .ok (.ifCond .eq 7, 3) := by decide +kernel
theorem dX10_next_8 : decode cX10_next 8 = .ok (.iconst 0, 1) := by decide +kernel
theorem dX10_next_9 : decode cX10_next 9 = .ok (.goto 18, 3) := by decide +kernel
theorem dX10_next_12 : decode cX10_next 12 = .ok (.aload_n 0, 1) := by decide +kernel
theorem dX10_next_13 : decode cX10_next 13 = .ok (.aload_n 0, 1) := by decide +kernel
theorem dX10_next_14 : decode cX10_next 14 = .ok (.getfield 32, 3) := by decide +kernel
theorem dX10_next_17 : decode cX10_next 17 = .ok (.iload_n 1, 1) := by decide +kernel
theorem dX10_next_18 : decode cX10_next 18 = .ok (.invokevirtual 51, 3) := by decide +kernel
theorem dX10_next_21 : decode cX10_next 21 = .ok (.checkcast 64, 3) := by decide +kernel
theorem dX10_next_24 : decode cX10_next 24 = .ok (.invokevirtual 288, 3) := by decide +kernel
theorem dX10_next_27 : decode cX10_next 27 = .ok (.ireturn, 1) := by decide +kernel
theorem dX10_waitForNow_0 : decode cX10_waitForNow 0 = .ok (.iconst 1, 1) := by decide +kernel
theorem dX10_waitForNow_1 : decode cX10_waitForNow 1 = .ok (.iload_n 2, 1) := by decide +kernel
theorem dX10_waitForNow_2 : decode cX10_waitForNow 2 = .ok (.ishl, 1) := by decide +kernel
theorem dX10_waitForNow_3 : decode cX10_waitForNow 3 = .ok (.istore_n 3, 1) := by decide +kernel
theorem dX10_waitForNow_4 : decode cX10_waitForNow 4 = .ok (.iconst 0, 1) := by decide +kernel
theorem dX10_waitForNow_5 : decode cX10_waitForNow 5 = .ok (.istore 4, 2) := by decide +kernel
theorem dX10_waitForNow_7 : decode cX10_waitForNow 7 = .ok (.iload_n 2, 1) := by decide +kernel
theorem dX10_waitForNow_8 : decode cX10_waitForNow 8 = .ok (.iconst 1, 1) := by decide +kernel
theorem dX10_waitForNow_9 : decode cX10_waitForNow 9 = .ok (.iadd, 1) := by decide +kernel
theorem dX10_waitForNow_10 : decode cX10_waitForNow 10 = .ok (.istore 5, 2) := by decide +kernel
theorem dX10_waitForNow_12 : decode cX10_waitForNow 12 = .ok (.iload 5, 2) := by decide +kernel
theorem dX10_waitForNow_14 : decode cX10_waitForNow 14 = .ok (.aload_n 0, 1) := by decide +kernel
theorem dX10_waitForNow_15 : decode cX10_waitForNow 15 = .ok (.getfield 10, 3) := by decide +kernel
theorem dX10_waitForNow_18 : decode cX10_waitForNow 18 = .ok (.invokevirtual 43, 3) := by decide +kernel
theorem dX10_waitForNow_21 : decode cX10_waitForNow 21 = .ok (.if_icmp .ge 69, 3) := by decide +kernel
theorem dX10_waitForNow_24 : decode cX10_waitForNow 24 = .ok (.aload_n 1, 1) := by decide +kernel
theorem dX10_waitForNow_25 : decode cX10_waitForNow 25 = .ok (.iload 5, 2) := by decide +kernel
theorem dX10_waitForNow_27 : decode cX10_waitForNow 27 = .ok (.invokevirtual 256, 3) := by decide +kernel
theorem dX10_waitForNow_30 : decode cX10_waitForNow 30 = .ok (.ifCond .eq 54, 3) := by decide +kernel
theorem dX10_waitForNow_33 : decode cX10_waitForNow 33 = .ok (.aload_n 0, 1) := by decide +kernel
theorem dX10_waitForNow_34 : decode cX10_waitForNow 34 = .ok (.getfield 10, 3) := by decide +kernel
theorem dX10_waitForNow_37 : decode cX10_waitForNow 37 = .ok (.iload 5, 2) := by decide +kernel
theorem dX10_waitForNow_39 : decode cX10_waitForNow 39 = .ok (.invokevirtual 51, 3) := by decide +kernel
theorem dX10_waitForNow_42 : decode cX10_waitForNow 42 = .ok (.checkcast 55, 3) := by decide +kernel
theorem dX10_waitForNow_45 : decode cX10_waitForNow 45 = .ok (.getfield 115, 3) := by decide +kernel
theorem dX10_waitForNow_48 : decode cX10_waitForNow 48 = .ok (.iload_n 3, 1) := by decide +kernel
theorem dX10_waitForNow_49 : decode cX10_waitForNow 49 = .ok (.iand, 1) := by decide +kernel
theorem dX10_waitForNow_50 : decode cX10_waitForNow 50 = .ok (.ifCond .ne 6, 3) := by decide +kernel
theorem dX10_waitForNow_53 : decode cX10_waitForNow 53 = .ok (.goto 31, 3) := by decide +kernel
theorem dX10_waitForNow_56 : decode cX10_waitForNow 56 = .ok (.iload_n 3, 1) := by decide +kernel
theorem dX10_waitForNow_57 : decode cX10_waitForNow 57 = .ok (.iconst 1, 1) := by decide +kernel
theorem dX10_waitForNow_58 : decode cX10_waitForNow 58 = .ok (.iload 5, 2) := by decide +kernel
theorem dX10_waitForNow_60 : decode cX10_waitForNow 60 = .ok (.ishl, 1) := by decide +kernel
theorem dX10_waitForNow_61 : decode cX10_waitForNow 61 = .ok (.ior, 1) := by decide +kernel
theorem dX10_waitForNow_62 : decode cX10_waitForNow 62 = .ok (.istore_n 3, 1) := by decide +kernel
theorem dX10_waitForNow_63 : decode cX10_waitForNow 63 = .ok (.iload 4, 2) := by decide +kernel
theorem dX10_waitForNow_65 : decode cX10_waitForNow 65 = .ok (.aload_n 1, 1) := by decide +kernel
theorem dX10_waitForNow_66 : decode cX10_waitForNow 66 = .ok (.getfield 75, 3) := by decide +kernel
theorem dX10_waitForNow_69 : decode cX10_waitForNow 69 = .ok (.iload 5, 2) := by decide +kernel
theorem dX10_waitForNow_71 : decode cX10_waitForNow 71 = .ok (.iaload, 1) := by decide +kernel
theorem dX10_waitForNow_72 : decode cX10_waitForNow 72 = .ok (.iconst 2, 1) := by decide +kernel
theorem dX10_waitForNow_73 : decode cX10_waitForNow 73 = .ok (.if_icmp .ne 7, 3) := by decide +kernel
theorem dX10_waitForNow_76 : decode cX10_waitForNow 76 = .ok (.iconst 0, 1) := by decide +kernel
theorem dX10_waitForNow_77 : decode cX10_waitForNow 77 = .ok (.goto 4, 3) := by decide +kernel
theorem dX10_waitForNow_80 : decode cX10_waitForNow 80 = .ok (.iconst 1, 1) := by decide +kernel
theorem dX10_waitForNow_81 : decode cX10_waitForNow 81 = .ok (.iadd, 1) := by decide +kernel
theorem dX10_waitForNow_82 : decode cX10_waitForNow 82 = .ok (.istore 4, 2) := by decide +kernel
theorem dX10_waitForNow_84 : decode cX10_waitForNow 84 = .ok (.iinc 5 1, 3) := by decide +kernel
theorem dX10_waitForNow_87 : decode cX10_waitForNow 87 = .ok (.goto (-75), 3) := by decide +kernel
theorem dX10_waitForNow_90 : decode cX10_waitForNow 90 = .ok (.iload 4, 2) := by decide +kernel
theorem dX10_waitForNow_92 : decode cX10_waitForNow 92 = .ok (.ireturn, 1) := by decide +kernel
theorem dX10_waitFor_0 : decode cX10_waitFor 0 = .ok (.aload_n 0, 1) := by decide +kernel
theorem dX10_waitFor_1 : decode cX10_waitFor 1 = .ok (.iload_n 1, 1) := by decide +kernel
theorem dX10_waitFor_2 : decode cX10_waitFor 2 = .ok (.iload_n 2, 1) := by decide +kernel
theorem dX10_waitFor_3 : decode cX10_waitFor 3 = .ok (.invokevirtual 259, 3) := by decide +kernel
theorem dX10_waitFor_6 : decode cX10_waitFor 6 = .ok (.ifCond .eq 7, 3) := by decide +kernel
theorem dX10_waitFor_9 : decode cX10_waitFor 9 = .ok (.iconst 0, 1) := by decide +kernel
theorem dX10_waitFor_10 : decode cX10_waitFor 10 = .ok (.goto 19, 3) := by decide +kernel
theorem dX10_waitFor_13 : decode cX10_waitFor 13 = .ok (.aload_n 0, 1) := by decide +kernel
theorem dX10_waitFor_14 : decode cX10_waitFor 14 = .ok (.aload_n 0, 1) := by decide +kernel
theorem dX10_waitFor_15 : decode cX10_waitFor 15 = .ok (.getfield 32, 3) := by decide +kernel
theorem dX10_waitFor_18 : decode cX10_waitFor 18 = .ok (.iload_n 1, 1) := by decide +kernel
theorem dX10_waitFor_19 : decode cX10_waitFor 19 = .ok (.invokevirtual 51, 3) := by decide +kernel
theorem dX10_waitFor_22 : decode cX10_waitFor 22 = .ok (.checkcast 64, 3) := by decide +kernel
theorem dX10_waitFor_25 : decode cX10_waitFor 25 = .ok (.iload_n 2, 1) := by decide +kernel
theorem dX10_waitFor_26 : decode cX10_waitFor 26 = .ok (.invokevirtual 291, 3) := by decide +kernel
theorem dX10_waitFor_29 : decode cX10_waitFor 29 = .ok (.ireturn, 1) := by decide +kernel
theorem dX10_add_0 : decode cX10_add 0 = .ok (.lload_n 0, 1) := by decide +kernel
theorem dX10_add_1 : decode cX10_add 1 = .ok (.ldc2_w 294, 3) := by decide +kernel
theorem dX10_add_4 : decode cX10_add 4 = .ok (.lmul, 1) := by decide +kernel
theorem dX10_add_5 : decode cX10_add 5 = .ok (.lload_n 2, 1) := by decide +kernel
theorem dX10_add_6 : decode cX10_add 6 = .ok (.ladd, 1) := by decide +kernel
theorem dX10_add_7 : decode cX10_add 7 = .ok (.lreturn, 1) := by decide +kernel
theorem dX10_digest_0 : decode cX10_digest 0 = .ok (.aload_n 0, 1) := by decide +kernel
theorem dX10_digest_1 : decode cX10_digest 1 = .ok (.iconst 0, 1) := by decide +kernel
theorem dX10_digest_2 : decode cX10_digest 2 = .ok (.putfield 35, 3) := by decide +kernel
theorem dX10_digest_5 : decode cX10_digest 5 = .ok (.ldc2_w 296, 3) := by decide +kernel
theorem dX10_digest_8 : decode cX10_digest 8 = .ok (.lstore_n 1, 1) := by decide +kernel
theorem dX10_digest_9 : decode cX10_digest 9 = .ok (.iconst 0, 1) := by decide +kernel
theorem dX10_digest_10 : decode cX10_digest 10 = .ok (.istore_n 3, 1) := by decide +kernel
theorem dX10_digest_11 : decode cX10_digest 11 = .ok (.iload_n 3, 1) := by decide +kernel
theorem dX10_digest_12 : decode cX10_digest 12 = .ok (.bipush 11, 2) := by decide +kernel
theorem dX10_digest_14 : decode cX10_digest 14 = .ok (.if_icmp .ge 20, 3) := by decide +kernel
theorem dX10_digest_17 : decode cX10_digest 17 = .ok (.lload_n 1, 1) := by decide +kernel
theorem dX10_digest_18 : decode cX10_digest 18 = .ok (.aload_n 0, 1) := by decide +kernel
theorem dX10_digest_19 : decode cX10_digest 19 = .ok (.iload_n 3, 1) := by decide +kernel
theorem dX10_digest_20 : decode cX10_digest 20 = .ok (.invokevirtual 282, 3) := by decide +kernel
theorem dX10_digest_23 : decode cX10_digest 23 = .ok (.i2l, 1) := by decide +kernel
theorem dX10_digest_24 : decode cX10_digest 24 = .ok (.invokestatic 298, 3) := by decide +kernel
theorem dX10_digest_27 : decode cX10_digest 27 = .ok (.lstore_n 1, 1) := by decide +kernel
theorem dX10_digest_28 : decode cX10_digest 28 = .ok (.iinc 3 1, 3) := by decide +kernel
theorem dX10_digest_31 : decode cX10_digest 31 = .ok (.goto (-20), 3) := by decide +kernel
theorem dX10_digest_34 : decode cX10_digest 34 = .ok (.iconst 0, 1) := by decide +kernel
theorem dX10_digest_35 : decode cX10_digest 35 = .ok (.istore_n 3, 1) := by decide +kernel
theorem dX10_digest_36 : decode cX10_digest 36 = .ok (.iload_n 3, 1) := by decide +kernel
theorem dX10_digest_37 : decode cX10_digest 37 = .ok (.iconst 4, 1) := by decide +kernel
theorem dX10_digest_38 : decode cX10_digest 38 = .ok (.if_icmp .ge 37, 3) := by decide +kernel
theorem dX10_digest_41 : decode cX10_digest 41 = .ok (.iconst 0, 1) := by decide +kernel
theorem dX10_digest_42 : decode cX10_digest 42 = .ok (.istore 4, 2) := by decide +kernel
theorem dX10_digest_44 : decode cX10_digest 44 = .ok (.iload 4, 2) := by decide +kernel
theorem dX10_digest_46 : decode cX10_digest 46 = .ok (.iconst 4, 1) := by decide +kernel
theorem dX10_digest_47 : decode cX10_digest 47 = .ok (.if_icmp .ge 22, 3) := by decide +kernel
theorem dX10_digest_50 : decode cX10_digest 50 = .ok (.lload_n 1, 1) := by decide +kernel
theorem dX10_digest_51 : decode cX10_digest 51 = .ok (.aload_n 0, 1) := by decide +kernel
theorem dX10_digest_52 : decode cX10_digest 52 = .ok (.iload_n 3, 1) := by decide +kernel
theorem dX10_digest_53 : decode cX10_digest 53 = .ok (.iload 4, 2) := by decide +kernel
theorem dX10_digest_55 : decode cX10_digest 55 = .ok (.invokevirtual 241, 3) := by decide +kernel
theorem dX10_digest_58 : decode cX10_digest 58 = .ok (.i2l, 1) := by decide +kernel
theorem dX10_digest_59 : decode cX10_digest 59 = .ok (.invokestatic 298, 3) := by decide +kernel
theorem dX10_digest_62 : decode cX10_digest 62 = .ok (.lstore_n 1, 1) := by decide +kernel
theorem dX10_digest_63 : decode cX10_digest 63 = .ok (.iinc 4 1, 3) := by decide +kernel
theorem dX10_digest_66 : decode cX10_digest 66 = .ok (.goto (-22), 3) := by decide +kernel
theorem dX10_digest_69 : decode cX10_digest 69 = .ok (.iinc 3 1, 3) := by decide +kernel
theorem dX10_digest_72 : decode cX10_digest 72 = .ok (.goto (-36), 3) := by decide +kernel
theorem dX10_digest_75 : decode cX10_digest 75 = .ok (.iconst 0, 1) := by decide +kernel
theorem dX10_digest_76 : decode cX10_digest 76 = .ok (.istore_n 3, 1) := by decide +kernel
theorem dX10_digest_77 : decode cX10_digest 77 = .ok (.iload_n 3, 1) := by decide +kernel
theorem dX10_digest_78 : decode cX10_digest 78 = .ok (.aload_n 0, 1) := by decide +kernel
theorem dX10_digest_79 : decode cX10_digest 79 = .ok (.getfield 29, 3) := by decide +kernel
theorem dX10_digest_82 : decode cX10_digest 82 = .ok (.invokevirtual 43, 3) := by decide +kernel
theorem dX10_digest_85 : decode cX10_digest 85 = .ok (.if_icmp .ge 37, 3) := by decide +kernel
theorem dX10_digest_88 : decode cX10_digest 88 = .ok (.iconst 0, 1) := by decide +kernel
theorem dX10_digest_89 : decode cX10_digest 89 = .ok (.istore 4, 2) := by decide +kernel
theorem dX10_digest_91 : decode cX10_digest 91 = .ok (.iload 4, 2) := by decide +kernel
theorem dX10_digest_93 : decode cX10_digest 93 = .ok (.iconst 4, 1) := by decide +kernel
theorem dX10_digest_94 : decode cX10_digest 94 = .ok (.if_icmp .ge 22, 3) := by decide +kernel
theorem dX10_digest_97 : decode cX10_digest 97 = .ok (.lload_n 1, 1) := by decide +kernel
theorem dX10_digest_98 : decode cX10_digest 98 = .ok (.aload_n 0, 1) := by decide +kernel
theorem dX10_digest_99 : decode cX10_digest 99 = .ok (.iload_n 3, 1) := by decide +kernel
theorem dX10_digest_100 : decode cX10_digest 100 = .ok (.iload 4, 2) := by decide +kernel
theorem dX10_digest_102 : decode cX10_digest 102 = .ok (.invokevirtual 238, 3) := by decide +kernel
theorem dX10_digest_105 : decode cX10_digest 105 = .ok (.i2l, 1) := by decide +kernel
theorem dX10_digest_106 : decode cX10_digest 106 = .ok (.invokestatic 298, 3) := by decide +kernel
theorem dX10_digest_109 : decode cX10_digest 109 = .ok (.lstore_n 1, 1) := by decide +kernel
theorem dX10_digest_110 : decode cX10_digest 110 = .ok (.iinc 4 1, 3) := by decide +kernel
theorem dX10_digest_113 : decode cX10_digest 113 = .ok (.goto (-22), 3) := by decide +kernel
theorem dX10_digest_116 : decode cX10_digest 116 = .ok (.iinc 3 1, 3) := by decide +kernel
theorem dX10_digest_119 : decode cX10_digest 119 = .ok (.goto (-42), 3) := by decide +kernel
theorem dX10_digest_122 : decode cX10_digest 122 = .ok (.aload_n 0, 1) := by decide +kernel
theorem dX10_digest_123 : decode cX10_digest 123 = .ok (.getfield 32, 3) := by decide +kernel
theorem dX10_digest_126 : decode cX10_digest 126 = .ok (.invokevirtual 146, 3) := by decide +kernel
theorem dX10_digest_129 : decode cX10_digest 129 = .ok (.astore_n 3, 1) := by decide +kernel
theorem dX10_digest_130 : decode cX10_digest 130 = .ok (.aload_n 3, 1) := by decide +kernel
theorem dX10_digest_131 : decode cX10_digest 131 = .ok (.invokeinterface 150 1, 5) := by decide +kernel
theorem dX10_digest_136 : decode cX10_digest 136 = .ok (.ifCond .eq 174, 3) := by decide +kernel
theorem dX10_digest_139 : decode cX10_digest 139 = .ok (.aload_n 3, 1) := by decide +kernel
theorem dX10_digest_140 : decode cX10_digest 140 = .ok (.invokeinterface 156 1, 5) := by decide +kernel
theorem dX10_digest_145 : decode cX10_digest 145 = .ok (.checkcast 64, 3) := by decide +kernel
theorem dX10_digest_148 : decode cX10_digest 148 = .ok (.astore 4, 2) := by decide +kernel
theorem dX10_digest_150 : decode cX10_digest 150 = .ok (.iconst 0, 1) := by decide +kernel
theorem dX10_digest_151 : decode cX10_digest 151 = .ok (.istore 5, 2) := by decide +kernel
theorem dX10_digest_153 : decode cX10_digest 153 = .ok (.iload 5, 2) := by decide +kernel
theorem dX10_digest_155 : decode cX10_digest 155 = .ok (.bipush 7, 2) := by decide +kernel
theorem dX10_digest_157 : decode cX10_digest 157 = .ok (.if_icmp .ge 23, 3) := by decide +kernel
theorem dX10_digest_160 : decode cX10_digest 160 = .ok (.lload_n 1, 1) := by decide +kernel
theorem dX10_digest_161 : decode cX10_digest 161 = .ok (.aload_n 0, 1) := by decide +kernel
theorem dX10_digest_162 : decode cX10_digest 162 = .ok (.aload 4, 2) := by decide +kernel
theorem dX10_digest_164 : decode cX10_digest 164 = .ok (.iload 5, 2) := by decide +kernel
theorem dX10_digest_166 : decode cX10_digest 166 = .ok (.invokevirtual 279, 3) := by decide +kernel
theorem dX10_digest_169 : decode cX10_digest 169 = .ok (.i2l, 1) := by decide +kernel
theorem dX10_digest_170 : decode cX10_digest 170 = .ok (.invokestatic 298, 3) := by decide +kernel
theorem dX10_digest_173 : decode cX10_digest 173 = .ok (.lstore_n 1, 1) := by decide +kernel
theorem dX10_digest_174 : decode cX10_digest 174 = .ok (.iinc 5 1, 3) := by decide +kernel
theorem dX10_digest_177 : decode cX10_digest 177 = .ok (.goto (-24), 3) := by decide +kernel
theorem dX10_digest_180 : decode cX10_digest 180 = .ok (.lload_n 1, 1) := by decide +kernel
theorem dX10_digest_181 : decode cX10_digest 181 = .ok (.aload_n 0, 1) := by decide +kernel
theorem dX10_digest_182 : decode cX10_digest 182 = .ok (.aload 4, 2) := by decide +kernel
theorem dX10_digest_184 : decode cX10_digest 184 = .ok (.invokevirtual 288, 3) := by decide +kernel
theorem dX10_digest_187 : decode cX10_digest 187 = .ok (.i2l, 1) := by decide +kernel
theorem dX10_digest_188 : decode cX10_digest 188 = .ok (.invokestatic 298, 3) := by decide +kernel
theorem dX10_digest_191 : decode cX10_digest 191 = .ok (.lstore_n 1, 1) := by decide +kernel
theorem dX10_digest_192 : decode cX10_digest 192 = .ok (.iconst 0, 1) := by decide +kernel
theorem dX10_digest_193 : decode cX10_digest 193 = .ok (.istore 5, 2) := by decide +kernel
theorem dX10_digest_195 : decode cX10_digest 195 = .ok (.iload 5, 2) := by decide +kernel
theorem dX10_digest_197 : decode cX10_digest 197 = .ok (.aload_n 0, 1) := by decide +kernel
theorem dX10_digest_198 : decode cX10_digest 198 = .ok (.getfield 20, 3) := by decide +kernel
theorem dX10_digest_201 : decode cX10_digest 201 = .ok (.invokevirtual 43, 3) := by decide +kernel
theorem dX10_digest_204 : decode cX10_digest 204 = .ok (.if_icmp .ge 23, 3) := by decide +kernel
theorem dX10_digest_207 : decode cX10_digest 207 = .ok (.lload_n 1, 1) := by decide +kernel
theorem dX10_digest_208 : decode cX10_digest 208 = .ok (.aload_n 0, 1) := by decide +kernel
theorem dX10_digest_209 : decode cX10_digest 209 = .ok (.aload 4, 2) := by decide +kernel
theorem dX10_digest_211 : decode cX10_digest 211 = .ok (.iload 5, 2) := by decide +kernel
theorem dX10_digest_213 : decode cX10_digest 213 = .ok (.invokevirtual 285, 3) := by decide +kernel
theorem dX10_digest_216 : decode cX10_digest 216 = .ok (.i2l, 1) := by decide +kernel
theorem dX10_digest_217 : decode cX10_digest 217 = .ok (.invokestatic 298, 3) := by decide +kernel
theorem dX10_digest_220 : decode cX10_digest 220 = .ok (.lstore_n 1, 1) := by decide +kernel
theorem dX10_digest_221 : decode cX10_digest 221 = .ok (.iinc 5 1, 3) := by decide +kernel
theorem dX10_digest_224 : decode cX10_digest 224 = .ok (.goto (-29), 3) := by decide +kernel
theorem dX10_digest_227 : decode cX10_digest 227 = .ok (.iconst 0, 1) := by decide +kernel
theorem dX10_digest_228 : decode cX10_digest 228 = .ok (.istore 5, 2) := by decide +kernel
theorem dX10_digest_230 : decode cX10_digest 230 = .ok (.iload 5, 2) := by decide +kernel
theorem dX10_digest_232 : decode cX10_digest 232 = .ok (.aload_n 0, 1) := by decide +kernel
theorem dX10_digest_233 : decode cX10_digest 233 = .ok (.getfield 10, 3) := by decide +kernel
theorem dX10_digest_236 : decode cX10_digest 236 = .ok (.invokevirtual 43, 3) := by decide +kernel
theorem dX10_digest_239 : decode cX10_digest 239 = .ok (.if_icmp .ge 68, 3) := by decide +kernel
theorem dX10_digest_242 : decode cX10_digest 242 = .ok (.aload 4, 2) := by decide +kernel
theorem dX10_digest_244 : decode cX10_digest 244 = .ok (.iload 5, 2) := by decide +kernel
theorem dX10_digest_246 : decode cX10_digest 246 = .ok (.invokevirtual 256, 3) := by decide +kernel
theorem dX10_digest_249 : decode cX10_digest 249 = .ok (.ifCond .ne 6, 3) := by decide +kernel
theorem dX10_digest_252 : decode cX10_digest 252 = .ok (.goto 49, 3) := by decide +kernel
theorem dX10_digest_255 : decode cX10_digest 255 = .ok (.iconst 0, 1) := by decide +kernel
theorem dX10_digest_256 : decode cX10_digest 256 = .ok (.istore 6, 2) := by decide +kernel
theorem dX10_digest_258 : decode cX10_digest 258 = .ok (.iload 6, 2) := by decide +kernel
theorem dX10_digest_260 : decode cX10_digest 260 = .ok (.bipush 6, 2) := by decide +kernel
theorem dX10_digest_262 : decode cX10_digest 262 = .ok (.if_icmp .ge 25, 3) := by decide +kernel
theorem dX10_digest_265 : decode cX10_digest 265 = .ok (.lload_n 1, 1) := by decide +kernel
theorem dX10_digest_266 : decode cX10_digest 266 = .ok (.aload_n 0, 1) := by decide +kernel
theorem dX10_digest_267 : decode cX10_digest 267 = .ok (.aload 4, 2) := by decide +kernel
theorem dX10_digest_269 : decode cX10_digest 269 = .ok (.iload 5, 2) := by decide +kernel
theorem dX10_digest_271 : decode cX10_digest 271 = .ok (.iload 6, 2) := by decide +kernel
theorem dX10_digest_273 : decode cX10_digest 273 = .ok (.invokevirtual 262, 3) := by decide +kernel
theorem dX10_digest_276 : decode cX10_digest 276 = .ok (.i2l, 1) := by decide +kernel
theorem dX10_digest_277 : decode cX10_digest 277 = .ok (.invokestatic 298, 3) := by decide +kernel
theorem dX10_digest_280 : decode cX10_digest 280 = .ok (.lstore_n 1, 1) := by decide +kernel
theorem dX10_digest_281 : decode cX10_digest 281 = .ok (.iinc 6 1, 3) := by decide +kernel
theorem dX10_digest_284 : decode cX10_digest 284 = .ok (.goto (-26), 3) := by decide +kernel
theorem dX10_digest_287 : decode cX10_digest 287 = .ok (.lload_n 1, 1) := by decide +kernel
theorem dX10_digest_288 : decode cX10_digest 288 = .ok (.aload_n 0, 1) := by decide +kernel
theorem dX10_digest_289 : decode cX10_digest 289 = .ok (.aload 4, 2) := by decide +kernel
theorem dX10_digest_291 : decode cX10_digest 291 = .ok (.iload 5, 2) := by decide +kernel
theorem dX10_digest_293 : decode cX10_digest 293 = .ok (.invokevirtual 291, 3) := by decide +kernel
theorem dX10_digest_296 : decode cX10_digest 296 = .ok (.i2l, 1) := by decide +kernel
theorem dX10_digest_297 : decode cX10_digest 297 = .ok (.invokestatic 298, 3) := by decide +kernel
theorem dX10_digest_300 : decode cX10_digest 300 = .ok (.lstore_n 1, 1) := by decide +kernel
theorem dX10_digest_301 : decode cX10_digest 301 = .ok (.iinc 5 1, 3) := by decide +kernel
theorem dX10_digest_304 : decode cX10_digest 304 = .ok (.goto (-74), 3) := by decide +kernel
theorem dX10_digest_307 : decode cX10_digest 307 = .ok (.goto (-177), 3) := by decide +kernel
theorem dX10_digest_310 : decode cX10_digest 310 = .ok (.lload_n 1, 1) := by decide +kernel
theorem dX10_digest_311 : decode cX10_digest 311 = .ok (.lreturn, 1) := by decide +kernel
theorem dJ6_valueOf_2dffe_0 : decode cJ6_valueOf_2dffe 0 = .ok (.iload_n 0, 1) := by decide +kernel
theorem dJ6_valueOf_2dffe_1 : decode cJ6_valueOf_2dffe 1 = .ok (.bipush (-128), 2) := by decide +kernel
theorem dJ6_valueOf_2dffe_3 : decode cJ6_valueOf_2dffe 3 = .ok (.if_icmp .lt 20, 3) := by decide +kernel
theorem dJ6_valueOf_2dffe_6 : decode cJ6_valueOf_2dffe 6 = .ok (.iload_n 0, 1) := by decide +kernel
theorem dJ6_valueOf_2dffe_7 : decode cJ6_valueOf_2dffe 7 = .ok (.getstatic 191, 3) := by decide +kernel
theorem dJ6_valueOf_2dffe_10 : decode cJ6_valueOf_2dffe 10 = .ok (.if_icmp .gt 13, 3) := by decide +kernel
theorem dJ6_valueOf_2dffe_13 : decode cJ6_valueOf_2dffe 13 = .ok (.getstatic 195, 3) := by decide +kernel
theorem dJ6_valueOf_2dffe_16 : decode cJ6_valueOf_2dffe 16 = .ok (.iload_n 0, 1) := by decide +kernel
theorem dJ6_valueOf_2dffe_17 : decode cJ6_valueOf_2dffe 17 = .ok (.sipush 128, 3) := by decide +kernel
theorem dJ6_valueOf_2dffe_20 : decode cJ6_valueOf_2dffe 20 = .ok (.iadd, 1) := by decide +kernel
theorem dJ6_valueOf_2dffe_21 : decode cJ6_valueOf_2dffe 21 = .ok (.aaload, 1) := by decide +kernel
theorem dJ6_valueOf_2dffe_22 : decode cJ6_valueOf_2dffe 22 = .ok (.areturn, 1) := by decide +kernel
theorem dJ6_valueOf_2dffe_23 : decode cJ6_valueOf_2dffe 23 = .ok (.new 1, 3) := by decide +kernel
theorem dJ6_valueOf_2dffe_26 : decode cJ6_valueOf_2dffe 26 = .ok (.dup, 1) := by decide +kernel
theorem dJ6_valueOf_2dffe_27 : decode cJ6_valueOf_2dffe 27 = .ok (.iload_n 0, 1) := by decide +kernel
theorem dJ6_valueOf_2dffe_28 : decode cJ6_valueOf_2dffe 28 = .ok (.invokespecial 199, 3) := by decide +kernel
theorem dJ6_valueOf_2dffe_31 : decode cJ6_valueOf_2dffe 31 = .ok (.areturn, 1) := by decide +kernel
theorem dJ6_init_d00df_0 : decode cJ6_init_d00df 0 = .ok (.aload_n 0, 1) := by decide +kernel
theorem dJ6_init_d00df_1 : decode cJ6_init_d00df 1 = .ok (.invokespecial 202, 3) := by decide +kernel
theorem dJ6_init_d00df_4 : decode cJ6_init_d00df 4 = .ok (.aload_n 0, 1) := by decide +kernel
theorem dJ6_init_d00df_5 : decode cJ6_init_d00df 5 = .ok (.iload_n 1, 1) := by decide +kernel
theorem dJ6_init_d00df_6 : decode cJ6_init_d00df 6 = .ok (.putfield 205, 3) := by decide +kernel
theorem dJ6_init_d00df_9 : decode cJ6_init_d00df 9 = .ok (.return_, 1) := by decide +kernel
theorem dJ6_intValue_8abf5_0 : decode cJ6_intValue_8abf5 0 = .ok (.aload_n 0, 1) := by decide +kernel
theorem dJ6_intValue_8abf5_1 : decode cJ6_intValue_8abf5 1 = .ok (.getfield 205, 3) := by decide +kernel
