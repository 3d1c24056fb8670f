/-! LineFramesModel write (I)I -/
theorem d_RM_write_0 : decode prog_13_method_29_code 0 = .ok (.aload_n 0, 1) := by decide +kernel
theorem d_RM_write_1 : decode prog_13_method_29_code 1 = .ok (.aload_n 0, 1) := by decide +kernel
theorem d_RM_write_2 : decode prog_13_method_29_code 2 = .ok (.getfield 110, 3) := by decide +kernel
theorem d_RM_write_5 : decode prog_13_method_29_code 5 = .ok (.ifCond .ne 7, 3) := by decide +kernel
theorem d_RM_write_8 : decode prog_13_method_29_code 8 = .ok (.iconst 1, 1) := by decide +kernel
theorem d_RM_write_9 : decode prog_13_method_29_code 9 = .ok (.goto 17, 3) := by decide +kernel
theorem d_RM_write_12 : decode prog_13_method_29_code 12 = .ok (.iload_n 1, 1) := by decide +kernel
theorem d_RM_write_13 : decode prog_13_method_29_code 13 = .ok (.iconst 0, 1) := by decide +kernel
theorem d_RM_write_14 : decode prog_13_method_29_code 14 = .ok (.iconst 3, 1) := by decide +kernel
theorem d_RM_write_15 : decode prog_13_method_29_code 15 = .ok (.invokestatic 93, 3) := by decide +kernel
theorem d_RM_write_18 : decode prog_13_method_29_code 18 = .ok (.ifCond .ne 7, 3) := by decide +kernel
theorem d_RM_write_21 : decode prog_13_method_29_code 21 = .ok (.iconst 2, 1) := by decide +kernel
theorem d_RM_write_22 : decode prog_13_method_29_code 22 = .ok (.goto 4, 3) := by decide +kernel
theorem d_RM_write_25 : decode prog_13_method_29_code 25 = .ok (.iconst 0, 1) := by decide +kernel
theorem d_RM_write_26 : decode prog_13_method_29_code 26 = .ok (.putfield 90, 3) := by decide +kernel
theorem d_RM_write_29 : decode prog_13_method_29_code 29 = .ok (.aload_n 0, 1) := by decide +kernel
theorem d_RM_write_30 : decode prog_13_method_29_code 30 = .ok (.getfield 90, 3) := by decide +kernel
theorem d_RM_write_33 : decode prog_13_method_29_code 33 = .ok (.ifCond .le 5, 3) := by decide +kernel
theorem d_RM_write_36 : decode prog_13_method_29_code 36 = .ok (.iconst 0, 1) := by decide +kernel
theorem d_RM_write_37 : decode prog_13_method_29_code 37 = .ok (.ireturn, 1) := by decide +kernel
theorem d_RM_write_38 : decode prog_13_method_29_code 38 = .ok (.aload_n 0, 1) := by decide +kernel
theorem d_RM_write_39 : decode prog_13_method_29_code 39 = .ok (.iload_n 1, 1) := by decide +kernel
theorem d_RM_write_40 : decode prog_13_method_29_code 40 = .ok (.putfield 133, 3) := by decide +kernel
theorem d_RM_write_43 : decode prog_13_method_29_code 43 = .ok (.aload_n 0, 1) := by decide +kernel
theorem d_RM_write_44 : decode prog_13_method_29_code 44 = .ok (.aload_n 0, 1) := by decide +kernel
theorem d_RM_write_45 : decode prog_13_method_29_code 45 = .ok (.getfield 107, 3) := by decide +kernel
theorem d_RM_write_48 : decode prog_13_method_29_code 48 = .ok (.invokestatic 129, 3) := by decide +kernel
theorem d_RM_write_51 : decode prog_13_method_29_code 51 = .ok (.putfield 136, 3) := by decide +kernel
theorem d_RM_write_54 : decode prog_13_method_29_code 54 = .ok (.aload_n 0, 1) := by decide +kernel
theorem d_RM_write_55 : decode prog_13_method_29_code 55 = .ok (.iconst 0, 1) := by decide +kernel
theorem d_RM_write_56 : decode prog_13_method_29_code 56 = .ok (.putfield 146, 3) := by decide +kernel
theorem d_RM_write_59 : decode prog_13_method_29_code 59 = .ok (.aload_n 0, 1) := by decide +kernel
theorem d_RM_write_60 : decode prog_13_method_29_code 60 = .ok (.sipush 255, 3) := by decide +kernel
theorem d_RM_write_63 : decode prog_13_method_29_code 63 = .ok (.invokevirtual 149, 3) := by decide +kernel
theorem d_RM_write_66 : decode prog_13_method_29_code 66 = .ok (.aload_n 0, 1) := by decide +kernel
theorem d_RM_write_67 : decode prog_13_method_29_code 67 = .ok (.sipush 216, 3) := by decide +kernel
theorem d_RM_write_70 : decode prog_13_method_29_code 70 = .ok (.invokevirtual 149, 3) := by decide +kernel
theorem d_RM_write_73 : decode prog_13_method_29_code 73 = .ok (.iconst 0, 1) := by decide +kernel
theorem d_RM_write_74 : decode prog_13_method_29_code 74 = .ok (.istore_n 2, 1) := by decide +kernel
theorem d_RM_write_75 : decode prog_13_method_29_code 75 = .ok (.iload_n 2, 1) := by decide +kernel
theorem d_RM_write_76 : decode prog_13_method_29_code 76 = .ok (.aload_n 0, 1) := by decide +kernel
theorem d_RM_write_77 : decode prog_13_method_29_code 77 = .ok (.getfield 122, 3) := by decide +kernel
theorem d_RM_write_80 : decode prog_13_method_29_code 80 = .ok (.if_icmp .ge 81, 3) := by decide +kernel
theorem d_RM_write_83 : decode prog_13_method_29_code 83 = .ok (.aload_n 0, 1) := by decide +kernel
theorem d_RM_write_84 : decode prog_13_method_29_code 84 = .ok (.aload_n 0, 1) := by decide +kernel
theorem d_RM_write_85 : decode prog_13_method_29_code 85 = .ok (.getfield 20, 3) := by decide +kernel
theorem d_RM_write_88 : decode prog_13_method_29_code 88 = .ok (.iload_n 2, 1) := by decide +kernel
theorem d_RM_write_89 : decode prog_13_method_29_code 89 = .ok (.iaload, 1) := by decide +kernel
theorem d_RM_write_90 : decode prog_13_method_29_code 90 = .ok (.bipush 16, 2) := by decide +kernel
theorem d_RM_write_92 : decode prog_13_method_29_code 92 = .ok (.if_icmp .ne 9, 3) := by decide +kernel
theorem d_RM_write_95 : decode prog_13_method_29_code 95 = .ok (.sipush 254, 3) := by decide +kernel
theorem d_RM_write_98 : decode prog_13_method_29_code 98 = .ok (.goto 13, 3) := by decide +kernel
theorem d_RM_write_101 : decode prog_13_method_29_code 101 = .ok (.sipush 224, 3) := by decide +kernel
theorem d_RM_write_104 : decode prog_13_method_29_code 104 = .ok (.aload_n 0, 1) := by decide +kernel
theorem d_RM_write_105 : decode prog_13_method_29_code 105 = .ok (.getfield 20, 3) := by decide +kernel
theorem d_RM_write_108 : decode prog_13_method_29_code 108 = .ok (.iload_n 2, 1) := by decide +kernel
theorem d_RM_write_109 : decode prog_13_method_29_code 109 = .ok (.iaload, 1) := by decide +kernel
theorem d_RM_write_110 : decode prog_13_method_29_code 110 = .ok (.iadd, 1) := by decide +kernel
theorem d_RM_write_111 : decode prog_13_method_29_code 111 = .ok (.iconst 2, 1) := by decide +kernel
theorem d_RM_write_112 : decode prog_13_method_29_code 112 = .ok (.aload_n 0, 1) := by decide +kernel
theorem d_RM_write_113 : decode prog_13_method_29_code 113 = .ok (.getfield 23, 3) := by decide +kernel
theorem d_RM_write_116 : decode prog_13_method_29_code 116 = .ok (.iload_n 2, 1) := by decide +kernel
theorem d_RM_write_117 : decode prog_13_method_29_code 117 = .ok (.iaload, 1) := by decide +kernel
theorem d_RM_write_118 : decode prog_13_method_29_code 118 = .ok (.iadd, 1) := by decide +kernel
theorem d_RM_write_119 : decode prog_13_method_29_code 119 = .ok (.invokevirtual 198, 3) := by decide +kernel
theorem d_RM_write_122 : decode prog_13_method_29_code 122 = .ok (.iconst 0, 1) := by decide +kernel
theorem d_RM_write_123 : decode prog_13_method_29_code 123 = .ok (.istore_n 3, 1) := by decide +kernel
theorem d_RM_write_124 : decode prog_13_method_29_code 124 = .ok (.iload_n 3, 1) := by decide +kernel
theorem d_RM_write_125 : decode prog_13_method_29_code 125 = .ok (.aload_n 0, 1) := by decide +kernel
theorem d_RM_write_126 : decode prog_13_method_29_code 126 = .ok (.getfield 23, 3) := by decide +kernel
theorem d_RM_write_129 : decode prog_13_method_29_code 129 = .ok (.iload_n 2, 1) := by decide +kernel
theorem d_RM_write_130 : decode prog_13_method_29_code 130 = .ok (.iaload, 1) := by decide +kernel
theorem d_RM_write_131 : decode prog_13_method_29_code 131 = .ok (.if_icmp .ge 24, 3) := by decide +kernel
theorem d_RM_write_134 : decode prog_13_method_29_code 134 = .ok (.aload_n 0, 1) := by decide +kernel
theorem d_RM_write_135 : decode prog_13_method_29_code 135 = .ok (.aload_n 0, 1) := by decide +kernel
theorem d_RM_write_136 : decode prog_13_method_29_code 136 = .ok (.getfield 26, 3) := by decide +kernel
theorem d_RM_write_139 : decode prog_13_method_29_code 139 = .ok (.bipush 30, 2) := by decide +kernel
theorem d_RM_write_141 : decode prog_13_method_29_code 141 = .ok (.iload_n 2, 1) := by decide +kernel
theorem d_RM_write_142 : decode prog_13_method_29_code 142 = .ok (.imul, 1) := by decide +kernel
theorem d_RM_write_143 : decode prog_13_method_29_code 143 = .ok (.iload_n 3, 1) := by decide +kernel
theorem d_RM_write_144 : decode prog_13_method_29_code 144 = .ok (.iadd, 1) := by decide +kernel
theorem d_RM_write_145 : decode prog_13_method_29_code 145 = .ok (.iaload, 1) := by decide +kernel
theorem d_RM_write_146 : decode prog_13_method_29_code 146 = .ok (.invokevirtual 149, 3) := by decide +kernel
theorem d_RM_write_149 : decode prog_13_method_29_code 149 = .ok (.iinc 3 1, 3) := by decide +kernel
theorem d_RM_write_152 : decode prog_13_method_29_code 152 = .ok (.goto (-28), 3) := by decide +kernel
theorem d_RM_write_155 : decode prog_13_method_29_code 155 = .ok (.iinc 2 1, 3) := by decide +kernel
theorem d_RM_write_158 : decode prog_13_method_29_code 158 = .ok (.goto (-83), 3) := by decide +kernel
theorem d_RM_write_161 : decode prog_13_method_29_code 161 = .ok (.aload_n 0, 1) := by decide +kernel
theorem d_RM_write_162 : decode prog_13_method_29_code 162 = .ok (.sipush 247, 3) := by decide +kernel
theorem d_RM_write_165 : decode prog_13_method_29_code 165 = .ok (.bipush 8, 2) := by decide +kernel
theorem d_RM_write_167 : decode prog_13_method_29_code 167 = .ok (.iconst 3, 1) := by decide +kernel
theorem d_RM_write_168 : decode prog_13_method_29_code 168 = .ok (.aload_n 0, 1) := by decide +kernel
theorem d_RM_write_169 : decode prog_13_method_29_code 169 = .ok (.getfield 110, 3) := by decide +kernel
theorem d_RM_write_172 : decode prog_13_method_29_code 172 = .ok (.imul, 1) := by decide +kernel
theorem d_RM_write_173 : decode prog_13_method_29_code 173 = .ok (.iadd, 1) := by decide +kernel
theorem d_RM_write_174 : decode prog_13_method_29_code 174 = .ok (.invokevirtual 198, 3) := by decide +kernel
theorem d_RM_write_177 : decode prog_13_method_29_code 177 = .ok (.aload_n 0, 1) := by decide +kernel
theorem d_RM_write_178 : decode prog_13_method_29_code 178 = .ok (.aload_n 0, 1) := by decide +kernel
theorem d_RM_write_179 : decode prog_13_method_29_code 179 = .ok (.getfield 107, 3) := by decide +kernel
theorem d_RM_write_182 : decode prog_13_method_29_code 182 = .ok (.invokevirtual 149, 3) := by decide +kernel
theorem d_RM_write_185 : decode prog_13_method_29_code 185 = .ok (.aload_n 0, 1) := by decide +kernel
theorem d_RM_write_186 : decode prog_13_method_29_code 186 = .ok (.aload_n 0, 1) := by decide +kernel
theorem d_RM_write_187 : decode prog_13_method_29_code 187 = .ok (.getfield 104, 3) := by decide +kernel
theorem d_RM_write_190 : decode prog_13_method_29_code 190 = .ok (.invokevirtual 153, 3) := by decide +kernel
theorem d_RM_write_193 : decode prog_13_method_29_code 193 = .ok (.aload_n 0, 1) := by decide +kernel
theorem d_RM_write_194 : decode prog_13_method_29_code 194 = .ok (.aload_n 0, 1) := by decide +kernel
theorem d_RM_write_195 : decode prog_13_method_29_code 195 = .ok (.getfield 101, 3) := by decide +kernel
theorem d_RM_write_198 : decode prog_13_method_29_code 198 = .ok (.invokevirtual 153, 3) := by decide +kernel
theorem d_RM_write_201 : decode prog_13_method_29_code 201 = .ok (.aload_n 0, 1) := by decide +kernel
theorem d_RM_write_202 : decode prog_13_method_29_code 202 = .ok (.aload_n 0, 1) := by decide +kernel
theorem d_RM_write_203 : decode prog_13_method_29_code 203 = .ok (.getfield 110, 3) := by decide +kernel
theorem d_RM_write_206 : decode prog_13_method_29_code 206 = .ok (.invokevirtual 149, 3) := by decide +kernel
theorem d_RM_write_209 : decode prog_13_method_29_code 209 = .ok (.iconst 0, 1) := by decide +kernel
theorem d_RM_write_210 : decode prog_13_method_29_code 210 = .ok (.istore_n 2, 1) := by decide +kernel
theorem d_RM_write_211 : decode prog_13_method_29_code 211 = .ok (.iload_n 2, 1) := by decide +kernel
theorem d_RM_write_212 : decode prog_13_method_29_code 212 = .ok (.aload_n 0, 1) := by decide +kernel
theorem d_RM_write_213 : decode prog_13_method_29_code 213 = .ok (.getfield 110, 3) := by decide +kernel
theorem d_RM_write_216 : decode prog_13_method_29_code 216 = .ok (.if_icmp .ge 27, 3) := by decide +kernel
theorem d_RM_write_219 : decode prog_13_method_29_code 219 = .ok (.aload_n 0, 1) := by decide +kernel
theorem d_RM_write_220 : decode prog_13_method_29_code 220 = .ok (.iload_n 2, 1) := by decide +kernel
theorem d_RM_write_221 : decode prog_13_method_29_code 221 = .ok (.iconst 1, 1) := by decide +kernel
theorem d_RM_write_222 : decode prog_13_method_29_code 222 = .ok (.iadd, 1) := by decide +kernel
theorem d_RM_write_223 : decode prog_13_method_29_code 223 = .ok (.invokevirtual 149, 3) := by decide +kernel
theorem d_RM_write_226 : decode prog_13_method_29_code 226 = .ok (.aload_n 0, 1) := by decide +kernel
theorem d_RM_write_227 : decode prog_13_method_29_code 227 = .ok (.bipush 17, 2) := by decide +kernel
theorem d_RM_write_229 : decode prog_13_method_29_code 229 = .ok (.invokevirtual 149, 3) := by decide +kernel
theorem d_RM_write_232 : decode prog_13_method_29_code 232 = .ok (.aload_n 0, 1) := by decide +kernel
theorem d_RM_write_233 : decode prog_13_method_29_code 233 = .ok (.iconst 0, 1) := by decide +kernel
theorem d_RM_write_234 : decode prog_13_method_29_code 234 = .ok (.invokevirtual 149, 3) := by decide +kernel
theorem d_RM_write_237 : decode prog_13_method_29_code 237 = .ok (.iinc 2 1, 3) := by decide +kernel
theorem d_RM_write_240 : decode prog_13_method_29_code 240 = .ok (.goto (-29), 3) := by decide +kernel
theorem d_RM_write_243 : decode prog_13_method_29_code 243 = .ok (.aload_n 0, 1) := by decide +kernel
theorem d_RM_write_244 : decode prog_13_method_29_code 244 = .ok (.getfield 113, 3) := by decide +kernel
theorem d_RM_write_247 : decode prog_13_method_29_code 247 = .ok (.bipush 64, 2) := by decide +kernel
theorem d_RM_write_249 : decode prog_13_method_29_code 249 = .ok (.if_icmp .ne 11, 3) := by decide +kernel
theorem d_RM_write_252 : decode prog_13_method_29_code 252 = .ok (.aload_n 0, 1) := by decide +kernel
theorem d_RM_write_253 : decode prog_13_method_29_code 253 = .ok (.getfield 116, 3) := by decide +kernel
theorem d_RM_write_256 : decode prog_13_method_29_code 256 = .ok (.iconst 4, 1) := by decide +kernel
theorem d_RM_write_257 : decode prog_13_method_29_code 257 = .ok (.if_icmp .eq 32, 3) := by decide +kernel
theorem d_RM_write_260 : decode prog_13_method_29_code 260 = .ok (.aload_n 0, 1) := by decide +kernel
theorem d_RM_write_261 : decode prog_13_method_29_code 261 = .ok (.sipush 248, 3) := by decide +kernel
theorem d_RM_write_264 : decode prog_13_method_29_code 264 = .ok (.iconst 5, 1) := by decide +kernel
theorem d_RM_write_265 : decode prog_13_method_29_code 265 = .ok (.invokevirtual 198, 3) := by decide +kernel
theorem d_RM_write_268 : decode prog_13_method_29_code 268 = .ok (.aload_n 0, 1) := by decide +kernel
theorem d_RM_write_269 : decode prog_13_method_29_code 269 = .ok (.iconst 1, 1) := by decide +kernel
theorem d_RM_write_270 : decode prog_13_method_29_code 270 = .ok (.invokevirtual 149, 3) := by decide +kernel
theorem d_RM_write_273 : decode prog_13_method_29_code 273 = .ok (.aload_n 0, 1) := by decide +kernel
theorem d_RM_write_274 : decode prog_13_method_29_code 274 = .ok (.aload_n 0, 1) := by decide +kernel
theorem d_RM_write_275 : decode prog_13_method_29_code 275 = .ok (.getfield 113, 3) := by decide +kernel
theorem d_RM_write_278 : decode prog_13_method_29_code 278 = .ok (.invokevirtual 149, 3) := by decide +kernel
theorem d_RM_write_281 : decode prog_13_method_29_code 281 = .ok (.aload_n 0, 1) := by decide +kernel
theorem d_RM_write_282 : decode prog_13_method_29_code 282 = .ok (.aload_n 0, 1) := by decide +kernel
theorem d_RM_write_283 : decode prog_13_method_29_code 283 = .ok (.getfield 116, 3) := by decide +kernel
theorem d_RM_write_286 : decode prog_13_method_29_code 286 = .ok (.invokevirtual 149, 3) := by decide +kernel
theorem d_RM_write_289 : decode prog_13_method_29_code 289 = .ok (.iconst 0, 1) := by decide +kernel
theorem d_RM_write_290 : decode prog_13_method_29_code 290 = .ok (.istore_n 2, 1) := by decide +kernel
theorem d_RM_write_291 : decode prog_13_method_29_code 291 = .ok (.iload_n 2, 1) := by decide +kernel
theorem d_RM_write_292 : decode prog_13_method_29_code 292 = .ok (.aload_n 0, 1) := by decide +kernel
theorem d_RM_write_293 : decode prog_13_method_29_code 293 = .ok (.getfield 110, 3) := by decide +kernel
theorem d_RM_write_296 : decode prog_13_method_29_code 296 = .ok (.if_icmp .ge 84, 3) := by decide +kernel
theorem d_RM_write_299 : decode prog_13_method_29_code 299 = .ok (.aload_n 0, 1) := by decide +kernel
theorem d_RM_write_300 : decode prog_13_method_29_code 300 = .ok (.getfield 13, 3) := by decide +kernel
theorem d_RM_write_303 : decode prog_13_method_29_code 303 = .ok (.iload_n 2, 1) := by decide +kernel
theorem d_RM_write_304 : decode prog_13_method_29_code 304 = .ok (.baload, 1) := by decide +kernel
theorem d_RM_write_305 : decode prog_13_method_29_code 305 = .ok (.ifCond .eq 69, 3) := by decide +kernel
theorem d_RM_write_308 : decode prog_13_method_29_code 308 = .ok (.aload_n 0, 1) := by decide +kernel
theorem d_RM_write_309 : decode prog_13_method_29_code 309 = .ok (.sipush 248, 3) := by decide +kernel
theorem d_RM_write_312 : decode prog_13_method_29_code 312 = .ok (.iconst 5, 1) := by decide +kernel
theorem d_RM_write_313 : decode prog_13_method_29_code 313 = .ok (.iconst 2, 1) := by decide +kernel
theorem d_RM_write_314 : decode prog_13_method_29_code 314 = .ok (.aload_n 0, 1) := by decide +kernel
theorem d_RM_write_315 : decode prog_13_method_29_code 315 = .ok (.getfield 136, 3) := by decide +kernel
theorem d_RM_write_318 : decode prog_13_method_29_code 318 = .ok (.iconst 1, 1) := by decide +kernel
theorem d_RM_write_319 : decode prog_13_method_29_code 319 = .ok (.iadd, 1) := by decide +kernel
theorem d_RM_write_320 : decode prog_13_method_29_code 320 = .ok (.imul, 1) := by decide +kernel
theorem d_RM_write_321 : decode prog_13_method_29_code 321 = .ok (.iadd, 1) := by decide +kernel
theorem d_RM_write_322 : decode prog_13_method_29_code 322 = .ok (.invokevirtual 198, 3) := by decide +kernel
theorem d_RM_write_325 : decode prog_13_method_29_code 325 = .ok (.aload_n 0, 1) := by decide +kernel
theorem d_RM_write_326 : decode prog_13_method_29_code 326 = .ok (.iconst 2, 1) := by decide +kernel
theorem d_RM_write_327 : decode prog_13_method_29_code 327 = .ok (.invokevirtual 149, 3) := by decide +kernel
theorem d_RM_write_330 : decode prog_13_method_29_code 330 = .ok (.aload_n 0, 1) := by decide +kernel
theorem d_RM_write_331 : decode prog_13_method_29_code 331 = .ok (.iload_n 2, 1) := by decide +kernel
theorem d_RM_write_332 : decode prog_13_method_29_code 332 = .ok (.iconst 1, 1) := by decide +kernel
theorem d_RM_write_333 : decode prog_13_method_29_code 333 = .ok (.iadd, 1) := by decide +kernel
theorem d_RM_write_334 : decode prog_13_method_29_code 334 = .ok (.invokevirtual 149, 3) := by decide +kernel
theorem d_RM_write_337 : decode prog_13_method_29_code 337 = .ok (.aload_n 0, 1) := by decide +kernel
theorem d_RM_write_338 : decode prog_13_method_29_code 338 = .ok (.iconst 2, 1) := by decide +kernel
theorem d_RM_write_339 : decode prog_13_method_29_code 339 = .ok (.invokevirtual 149, 3) := by decide +kernel
theorem d_RM_write_342 : decode prog_13_method_29_code 342 = .ok (.iconst 0, 1) := by decide +kernel
theorem d_RM_write_343 : decode prog_13_method_29_code 343 = .ok (.istore_n 3, 1) := by decide +kernel
theorem d_RM_write_344 : decode prog_13_method_29_code 344 = .ok (.iload_n 3, 1) := by decide +kernel
theorem d_RM_write_345 : decode prog_13_method_29_code 345 = .ok (.aload_n 0, 1) := by decide +kernel
theorem d_RM_write_346 : decode prog_13_method_29_code 346 = .ok (.getfield 136, 3) := by decide +kernel
theorem d_RM_write_349 : decode prog_13_method_29_code 349 = .ok (.if_icmp .gt 25, 3) := by decide +kernel
theorem d_RM_write_352 : decode prog_13_method_29_code 352 = .ok (.aload_n 0, 1) := by decide +kernel
theorem d_RM_write_353 : decode prog_13_method_29_code 353 = .ok (.aload_n 0, 1) := by decide +kernel
theorem d_RM_write_354 : decode prog_13_method_29_code 354 = .ok (.getfield 17, 3) := by decide +kernel
theorem d_RM_write_357 : decode prog_13_method_29_code 357 = .ok (.sipush 256, 3) := by decide +kernel
theorem d_RM_write_360 : decode prog_13_method_29_code 360 = .ok (.iload_n 2, 1) := by decide +kernel
theorem d_RM_write_361 : decode prog_13_method_29_code 361 = .ok (.imul, 1) := by decide +kernel
theorem d_RM_write_362 : decode prog_13_method_29_code 362 = .ok (.iload_n 3, 1) := by decide +kernel
theorem d_RM_write_363 : decode prog_13_method_29_code 363 = .ok (.iadd, 1) := by decide +kernel
theorem d_RM_write_364 : decode prog_13_method_29_code 364 = .ok (.iaload, 1) := by decide +kernel
theorem d_RM_write_365 : decode prog_13_method_29_code 365 = .ok (.invokevirtual 153, 3) := by decide +kernel
theorem d_RM_write_368 : decode prog_13_method_29_code 368 = .ok (.iinc 3 1, 3) := by decide +kernel
theorem d_RM_write_371 : decode prog_13_method_29_code 371 = .ok (.goto (-27), 3) := by decide +kernel
theorem d_RM_write_374 : decode prog_13_method_29_code 374 = .ok (.iinc 2 1, 3) := by decide +kernel
theorem d_RM_write_377 : decode prog_13_method_29_code 377 = .ok (.goto (-86), 3) := by decide +kernel
theorem d_RM_write_380 : decode prog_13_method_29_code 380 = .ok (.aload_n 0, 1) := by decide +kernel
theorem d_RM_write_381 : decode prog_13_method_29_code 381 = .ok (.getfield 119, 3) := by decide +kernel
theorem d_RM_write_384 : decode prog_13_method_29_code 384 = .ok (.ifCond .le 19, 3) := by decide +kernel
theorem d_RM_write_387 : decode prog_13_method_29_code 387 = .ok (.aload_n 0, 1) := by decide +kernel
theorem d_RM_write_388 : decode prog_13_method_29_code 388 = .ok (.sipush 221, 3) := by decide +kernel
theorem d_RM_write_391 : decode prog_13_method_29_code 391 = .ok (.iconst 4, 1) := by decide +kernel
theorem d_RM_write_392 : decode prog_13_method_29_code 392 = .ok (.invokevirtual 198, 3) := by decide +kernel
theorem d_RM_write_395 : decode prog_13_method_29_code 395 = .ok (.aload_n 0, 1) := by decide +kernel
theorem d_RM_write_396 : decode prog_13_method_29_code 396 = .ok (.aload_n 0, 1) := by decide +kernel
theorem d_RM_write_397 : decode prog_13_method_29_code 397 = .ok (.getfield 119, 3) := by decide +kernel
theorem d_RM_write_400 : decode prog_13_method_29_code 400 = .ok (.invokevirtual 153, 3) := by decide +kernel
theorem d_RM_write_403 : decode prog_13_method_29_code 403 = .ok (.aload_n 0, 1) := by decide +kernel
theorem d_RM_write_404 : decode prog_13_method_29_code 404 = .ok (.getfield 86, 3) := by decide +kernel
theorem d_RM_write_407 : decode prog_13_method_29_code 407 = .ok (.ifCond .eq 11, 3) := by decide +kernel
theorem d_RM_write_410 : decode prog_13_method_29_code 410 = .ok (.aload_n 0, 1) := by decide +kernel
theorem d_RM_write_411 : decode prog_13_method_29_code 411 = .ok (.getfield 110, 3) := by decide +kernel
theorem d_RM_write_414 : decode prog_13_method_29_code 414 = .ok (.iconst 1, 1) := by decide +kernel
theorem d_RM_write_415 : decode prog_13_method_29_code 415 = .ok (.if_icmp .ne 31, 3) := by decide +kernel
theorem d_RM_write_418 : decode prog_13_method_29_code 418 = .ok (.iconst 0, 1) := by decide +kernel
theorem d_RM_write_419 : decode prog_13_method_29_code 419 = .ok (.istore_n 2, 1) := by decide +kernel
theorem d_RM_write_420 : decode prog_13_method_29_code 420 = .ok (.iload_n 2, 1) := by decide +kernel
theorem d_RM_write_421 : decode prog_13_method_29_code 421 = .ok (.aload_n 0, 1) := by decide +kernel
theorem d_RM_write_422 : decode prog_13_method_29_code 422 = .ok (.getfield 110, 3) := by decide +kernel
theorem d_RM_write_425 : decode prog_13_method_29_code 425 = .ok (.if_icmp .ge 18, 3) := by decide +kernel
theorem d_RM_write_428 : decode prog_13_method_29_code 428 = .ok (.aload_n 0, 1) := by decide +kernel
theorem d_RM_write_429 : decode prog_13_method_29_code 429 = .ok (.iload_n 2, 1) := by decide +kernel
theorem d_RM_write_430 : decode prog_13_method_29_code 430 = .ok (.iload_n 2, 1) := by decide +kernel
theorem d_RM_write_431 : decode prog_13_method_29_code 431 = .ok (.iconst 1, 1) := by decide +kernel
theorem d_RM_write_432 : decode prog_13_method_29_code 432 = .ok (.iadd, 1) := by decide +kernel
theorem d_RM_write_433 : decode prog_13_method_29_code 433 = .ok (.iconst 0, 1) := by decide +kernel
theorem d_RM_write_434 : decode prog_13_method_29_code 434 = .ok (.invokevirtual 204, 3) := by decide +kernel
theorem d_RM_write_437 : decode prog_13_method_29_code 437 = .ok (.iinc 2 1, 3) := by decide +kernel
theorem d_RM_write_440 : decode prog_13_method_29_code 440 = .ok (.goto (-20), 3) := by decide +kernel
theorem d_RM_write_443 : decode prog_13_method_29_code 443 = .ok (.goto 16, 3) := by decide +kernel
theorem d_RM_write_446 : decode prog_13_method_29_code 446 = .ok (.aload_n 0, 1) := by decide +kernel
theorem d_RM_write_447 : decode prog_13_method_29_code 447 = .ok (.iconst 0, 1) := by decide +kernel
theorem d_RM_write_448 : decode prog_13_method_29_code 448 = .ok (.aload_n 0, 1) := by decide +kernel
theorem d_RM_write_449 : decode prog_13_method_29_code 449 = .ok (.getfield 110, 3) := by decide +kernel
theorem d_RM_write_452 : decode prog_13_method_29_code 452 = .ok (.aload_n 0, 1) := by decide +kernel
theorem d_RM_write_453 : decode prog_13_method_29_code 453 = .ok (.getfield 86, 3) := by decide +kernel
theorem d_RM_write_456 : decode prog_13_method_29_code 456 = .ok (.invokevirtual 204, 3) := by decide +kernel
theorem d_RM_write_459 : decode prog_13_method_29_code 459 = .ok (.aload_n 0, 1) := by decide +kernel
theorem d_RM_write_460 : decode prog_13_method_29_code 460 = .ok (.sipush 255, 3) := by decide +kernel
theorem d_RM_write_463 : decode prog_13_method_29_code 463 = .ok (.invokevirtual 149, 3) := by decide +kernel
theorem d_RM_write_466 : decode prog_13_method_29_code 466 = .ok (.aload_n 0, 1) := by decide +kernel
theorem d_RM_write_467 : decode prog_13_method_29_code 467 = .ok (.sipush 217, 3) := by decide +kernel
theorem d_RM_write_470 : decode prog_13_method_29_code 470 = .ok (.invokevirtual 149, 3) := by decide +kernel
theorem d_RM_write_473 : decode prog_13_method_29_code 473 = .ok (.aload_n 0, 1) := by decide +kernel
theorem d_RM_write_474 : decode prog_13_method_29_code 474 = .ok (.getfield 146, 3) := by decide +kernel
theorem d_RM_write_477 : decode prog_13_method_29_code 477 = .ok (.ireturn, 1) := by decide +kernel
def L_RM_write_124 (r0 : Nat) (b1 : Int32) (b2 : Int32) : Nat → Int32 → Mem →  Option (Int32 × Mem)
  | 0, _, _ => none
  | n + 1, a3, σ =>
  if inb b2 (wln (wtg r0 14)) = true then
  if (σ (wtg r0 14) b2.toNatClampNeg) ≤ a3 then
  some (a3, σ)
  else
  if inb (((30 : Int32) * b2) + a3) (wln (wtg r0 15)) = true then
  (f_RM_lay r0 (σ (wtg r0 15) (((30 : Int32) * b2) + a3).toNatClampNeg) σ).bind fun σ85 =>
  L_RM_write_124 r0 b1 b2 n (a3 + (1 : Int32)) σ85
  else none
  else none
def L_RM_write_75 (r0 : Nat) (b1 : Int32) : Nat → Int32 → Mem →  Option (Int32 × Mem)
  | 0, _, _ => none
  | n + 1, a2, σ =>
  if (σ r0 12) ≤ a2 then
  some (a2, σ)
  else
  if inb a2 (wln (wtg r0 13)) = true then
  lt (fun (y75 : Int32) => 
  if inb a2 (wln (wtg r0 14)) = true then
  (f_RM_mark r0 y75 ((2 : Int32) + (σ (wtg r0 14) a2.toNatClampNeg)) σ).bind fun σ80 =>
  (L_RM_write_124 r0 b1 a2 9999 (0 : Int32) σ80).bind fun q86 =>
  L_RM_write_75 r0 b1 n (a2 + (1 : Int32)) q86.2
  else none) fun K76 =>
  if (σ (wtg r0 13) a2.toNatClampNeg) = (16 : Int32) then
  K76 (254 : Int32)
  else
  if inb a2 (wln (wtg r0 13)) = true then
  K76 ((224 : Int32) + (σ (wtg r0 13) a2.toNatClampNeg))
  else none
  else none
def L_RM_write_211 (r0 : Nat) (b1 : Int32) : Nat → Int32 → Mem →  Option (Int32 × Mem)
  | 0, _, _ => none
  | n + 1, a2, σ =>
  if (σ r0 5) ≤ a2 then
  some (a2, σ)
  else
  (f_RM_lay r0 (a2 + (1 : Int32)) σ).bind fun σ102 =>
  (f_RM_lay r0 (17 : Int32) σ102).bind fun σ104 =>
  (f_RM_lay r0 (0 : Int32) σ104).bind fun σ106 =>
  L_RM_write_211 r0 b1 n (a2 + (1 : Int32)) σ106
def L_RM_write_344 (r0 : Nat) (b1 : Int32) (b2 : Int32) : Nat → Int32 → Mem →  Option (Int32 × Mem)
  | 0, _, _ => none
  | n + 1, a3, σ =>
  if (σ r0 55) < a3 then
  some (a3, σ)
  else
  if inb (((256 : Int32) * b2) + a3) (wln (wtg r0 8)) = true then
  (f_RM_layWide r0 (σ (wtg r0 8) (((256 : Int32) * b2) + a3).toNatClampNeg) σ).bind fun σ370 =>
  L_RM_write_344 r0 b1 b2 n (a3 + (1 : Int32)) σ370
  else none
def L_RM_write_291 (r0 : Nat) (b1 : Int32) : Nat → Int32 → Mem →  Option (Int32 × Mem)
  | 0, _, _ => none
  | n + 1, a2, σ =>
  if (σ r0 5) ≤ a2 then
  some (a2, σ)
  else
  if inb a2 (wln (wtg r0 7)) = true then
  lt (fun  (σ355 : Mem) => 
  L_RM_write_291 r0 b1 n (a2 + (1 : Int32)) σ355) fun K356 =>
  if (σ (wtg r0 7) a2.toNatClampNeg) = 0 then
  K356 σ
  else
  (f_RM_mark r0 (248 : Int32) ((5 : Int32) + ((2 : Int32) * ((σ r0 55) + (1 : Int32)))) σ).bind fun σ360 =>
  (f_RM_lay r0 (2 : Int32) σ360).bind fun σ362 =>
  (f_RM_lay r0 (a2 + (1 : Int32)) σ362).bind fun σ364 =>
  (f_RM_lay r0 (2 : Int32) σ364).bind fun σ366 =>
  (L_RM_write_344 r0 b1 a2 9999 (0 : Int32) σ366).bind fun q371 =>
  K356 q371.2
  else none
def L_RM_write_420 (r0 : Nat) (b1 : Int32) : Nat → Int32 → Mem →  Option (Int32 × Mem)
  | 0, _, _ => none
  | n + 1, a2, σ =>
  if (σ r0 5) ≤ a2 then
  some (a2, σ)
  else
  (f_RM_scan r0 a2 (a2 + (1 : Int32)) (0 : Int32) σ).bind fun σ630 =>
  L_RM_write_420 r0 b1 n (a2 + (1 : Int32)) σ630
def f_RM_write (k0 : Nat) (x1 : Int32) (σ : Mem) : Option (Int32 × Mem) :=
  lt (mput σ k0 1 (if (σ k0 5) = 0 then (1 : Int32) else (if (f_RM_isIn x1 (0 : Int32) (3 : Int32) σ) = 0 then (2 : Int32) else (0 : Int32)))) fun σ5 =>
  if (σ5 k0 1) ≤ 0 then
  lt (mput σ5 k0 54 x1) fun σ7 =>
  lt (mput σ7 k0 55 (f_RM_topOf (σ7 k0 4) σ7)) fun σ8 =>
  lt (mput σ8 k0 17 (0 : Int32)) fun σ9 =>
  (f_RM_lay k0 (255 : Int32) σ9).bind fun σ11 =>
  (f_RM_lay k0 (216 : Int32) σ11).bind fun σ13 =>
  (L_RM_write_75 k0 x1 9999 (0 : Int32) σ13).bind fun q89 =>
  (f_RM_mark k0 (247 : Int32) ((8 : Int32) + ((3 : Int32) * (q89.2 k0 5))) q89.2).bind fun σ91 =>
  (f_RM_lay k0 (σ91 k0 4) σ91).bind fun σ93 =>
  (f_RM_layWide k0 (σ93 k0 3) σ93).bind fun σ95 =>
  (f_RM_layWide k0 (σ95 k0 2) σ95).bind fun σ97 =>
  (f_RM_lay k0 (σ97 k0 5) σ97).bind fun σ99 =>
  (L_RM_write_211 k0 x1 9999 (0 : Int32) σ99).bind fun q107 =>
  lt (fun  (σ345 : Mem) => 
  (L_RM_write_291 k0 x1 9999 (0 : Int32) σ345).bind fun q372 =>
  lt (fun  (σ526 : Mem) => 
  lt (fun (y582 : Int32) (σ583 : Mem) => 
  (f_RM_lay k0 (255 : Int32) σ583).bind fun σ587 =>
  (f_RM_lay k0 (217 : Int32) σ587).bind fun σ589 =>
  some ((σ589 k0 17), σ589)) fun K584 =>
  lt (fun  (σ625 : Mem) => 
  (L_RM_write_420 k0 x1 9999 (0 : Int32) σ625).bind fun q631 =>
  K584 q631.1 q631.2) fun K626 =>
  if (σ526 k0 0) = 0 then
  K626 σ526
  else
  if (σ526 k0 5) = (1 : Int32) then
  K626 σ526
  else
  (f_RM_scan k0 (0 : Int32) (σ526 k0 5) (σ526 k0 0) σ526).bind fun σ635 =>
  K584 q372.1 σ635) fun K527 =>
  if (q372.2 k0 11) ≤ 0 then
  K527 q372.2
  else
  (f_RM_mark k0 (221 : Int32) (4 : Int32) q372.2).bind fun σ638 =>
  (f_RM_layWide k0 (σ638 k0 11) σ638).bind fun σ640 =>
  K527 σ640) fun K346 =>
  lt (
  (f_RM_mark k0 (248 : Int32) (5 : Int32) q107.2).bind fun σ675 =>
  (f_RM_lay k0 (1 : Int32) σ675).bind fun σ677 =>
  (f_RM_lay k0 (σ677 k0 9) σ677).bind fun σ679 =>
  (f_RM_lay k0 (σ679 k0 10) σ679).bind fun σ681 =>
  K346 σ681) fun K672 =>
  if (q107.2 k0 9) = (64 : Int32) then
  if (q107.2 k0 10) = (4 : Int32) then
  K346 q107.2
  else
  K672
  else
  K672
  else
  some ((0 : Int32), σ5)
set_option maxHeartbeats 4000000 in
set_option maxRecDepth 100000 in
theorem wL_RM_write_124 {F : Fx} (C : Ctx F prog_13_method_29_code 4 "LineFramesModel" (some .int) 6 147) {cv : Option (Int32 × Mem) → Option Rs} (h0 : cv none = none) (r0 : Nat) (hr0 : Is r0 11) (b1 : Int32) (b2 : Int32) (hex : ∀ q : Int32 × Mem, J F 4 cv (some q) q.2 155 [(0, .ref (fad F r0)), (1, .int b1), (2, .int b2), (3, .int q.1)] []) : ∀ (n : Nat) (a3 : Int32) (σ : Mem), J F 4 cv (L_RM_write_124 r0 b1 b2 n a3 σ) σ 124 [(0, .ref (fad F r0)), (1, .int b1), (2, .int b2), (3, .int a3)] [] := by
  intro n
  induction n with
  | zero => intro a3 σ hE; rw [L_RM_write_124, h0] at hE; cases hE
  | succ n ih =>
    intro a3 σ
    rw [L_RM_write_124]
    refine j_iload_n C d_RM_write_124 3 rfl ?_
    refine j_aload_n C d_RM_write_125 0 rfl ?_
    refine j_getR C hr0 fl_RM_23 rfl d_RM_write_126 ?_
    refine j_iload_n C d_RM_write_129 2 rfl ?_
    refine j_need (by exact h0) (fun g81 => ?_)
    refine j_iald C (tg_11_14 _ hr0) (inb_in g81) d_RM_write_130 ?_
    refine j_icmp_ge (tgt := 155) C d_RM_write_131 (by decide) (fun c82 => ?_) (fun c82 => ?_)
    · exact hex (a3, σ)
    · refine j_aload_n C d_RM_write_134 0 rfl ?_
      refine j_aload_n C d_RM_write_135 0 rfl ?_
      refine j_getR C hr0 fl_RM_26 rfl d_RM_write_136 ?_
      refine j_bipush (v := (30 : Int32)) C d_RM_write_139 (by decide) ?_
      refine j_iload_n C d_RM_write_141 2 rfl ?_
      refine j_imul C d_RM_write_142 ?_
      refine j_iload_n C d_RM_write_143 3 rfl ?_
      refine j_iadd C d_RM_write_144 ?_
      refine j_need (by exact h0) (fun g83 => ?_)
      refine j_iald C (tg_11_15 _ hr0) (inb_in g83) d_RM_write_145 ?_
      refine j_bind (by exact h0) (fun σ85 e84 => ?_)
      refine j_callVv C mv_RM_149 [.int (σ (wtg r0 15) (((30 : Int32) * b2) + a3).toNatClampNeg)] [] hr0 (c_RM_lay hr0 (σ (wtg r0 15) (((30 : Int32) * b2) + a3).toNatClampNeg) σ e84) rfl rfl (by decide) (Nat.le_of_ble_eq_true rfl) d_RM_write_146 ?_
      refine j_iinc (v := (a3 + (1 : Int32))) (lv9 := [(0, .ref (fad F r0)), (1, .int b1), (2, .int b2), (3, .int (a3 + (1 : Int32)))]) C d_RM_write_149 3 rfl rfl rfl rfl (by decide) ?_
      refine j_goto (tgt := 124) C d_RM_write_152 (by decide) ?_
      exact ih (a3 + (1 : Int32)) σ85
set_option maxHeartbeats 4000000 in
set_option maxRecDepth 100000 in
theorem wL_RM_write_75 {F : Fx} (C : Ctx F prog_13_method_29_code 4 "LineFramesModel" (some .int) 6 147) {cv : Option (Int32 × Mem) → Option Rs} (h0 : cv none = none) (r0 : Nat) (hr0 : Is r0 11) (b1 : Int32) (hex : ∀ q : Int32 × Mem, J F 4 cv (some q) q.2 161 [(0, .ref (fad F r0)), (1, .int b1), (2, .int q.1)] []) : ∀ (n : Nat) (a2 : Int32) (σ : Mem), J F 4 cv (L_RM_write_75 r0 b1 n a2 σ) σ 75 [(0, .ref (fad F r0)), (1, .int b1), (2, .int a2)] [] := by
  intro n
  induction n with
  | zero => intro a2 σ hE; rw [L_RM_write_75, h0] at hE; cases hE
  | succ n ih =>
    intro a2 σ
    rw [L_RM_write_75]
    refine j_iload_n C d_RM_write_75 2 rfl ?_
    refine j_aload_n C d_RM_write_76 0 rfl ?_
    refine j_getI C hr0 fl_RM_122 rfl d_RM_write_77 ?_
    refine j_icmp_ge (tgt := 161) C d_RM_write_80 (by decide) (fun c14 => ?_) (fun c14 => ?_)
    · exact hex (a2, σ)
    · refine j_aload_n C d_RM_write_83 0 rfl ?_
      refine j_aload_n C d_RM_write_84 0 rfl ?_
      refine j_getR C hr0 fl_RM_20 rfl d_RM_write_85 ?_
      refine j_iload_n C d_RM_write_88 2 rfl ?_
      refine j_need (by exact h0) (fun g15 => ?_)
      refine j_iald C (tg_11_13 _ hr0) (inb_in g15) d_RM_write_89 ?_
      refine j_bipush (v := (16 : Int32)) C d_RM_write_90 (by decide) ?_
      refine j_join1 111 (fun _ => [(0, .ref (fad F r0)), (1, .int b1), (2, .int a2)]) (fun y75 => [.int y75, .ref (fad F r0)]) (fun y75 => ?_) (fun K76 H77 => ?_)
      · refine j_iconst (v := (2 : Int32)) C d_RM_write_111 (by decide) ?_
        refine j_aload_n C d_RM_write_112 0 rfl ?_
        refine j_getR C hr0 fl_RM_23 rfl d_RM_write_113 ?_
        refine j_iload_n C d_RM_write_116 2 rfl ?_
        refine j_need (by exact h0) (fun g78 => ?_)
        refine j_iald C (tg_11_14 _ hr0) (inb_in g78) d_RM_write_117 ?_
        refine j_iadd C d_RM_write_118 ?_
        refine j_bind (by exact h0) (fun σ80 e79 => ?_)
        refine j_callVv C mv_RM_198 [.int y75, .int ((2 : Int32) + (σ (wtg r0 14) a2.toNatClampNeg))] [] hr0 (c_RM_mark hr0 y75 ((2 : Int32) + (σ (wtg r0 14) a2.toNatClampNeg)) σ e79) rfl rfl (by decide) (Nat.le_of_ble_eq_true rfl) d_RM_write_119 ?_
        refine j_iconst (v := (0 : Int32)) C d_RM_write_122 (by decide) ?_
        refine j_istore_n (lv9 := [(0, .ref (fad F r0)), (1, .int b1), (2, .int a2), (3, .int (0 : Int32))]) C d_RM_write_123 rfl rfl (by decide) ?_
        refine j_loop (wL_RM_write_124 C (by exact h0) r0 hr0 b1 a2 (fun q86 => j_some ?_) 9999 (0 : Int32) σ80)
        refine j_iinc (v := (a2 + (1 : Int32))) (lv9 := [(0, .ref (fad F r0)), (1, .int b1), (2, .int (a2 + (1 : Int32))), (3, .int q86.1)]) C d_RM_write_155 2 rfl rfl rfl rfl (by decide) ?_
        refine j_goto (tgt := 75) C d_RM_write_158 (by decide) ?_
        refine j_sub (lv9 := [(0, .ref (fad F r0)), (1, .int b1), (2, .int (a2 + (1 : Int32)))]) [0, 1, 2] rfl ?_
        exact ih (a2 + (1 : Int32)) q86.2
      · refine j_icmp_ne (tgt := 101) C d_RM_write_92 (by decide) (fun c87 => ?_) (fun c87 => ?_)
        · refine j_sipush (v := (224 : Int32)) C d_RM_write_101 (by decide) ?_
          refine j_aload_n C d_RM_write_104 0 rfl ?_
          refine j_getR C hr0 fl_RM_20 rfl d_RM_write_105 ?_
          refine j_iload_n C d_RM_write_108 2 rfl ?_
          refine j_need (by exact h0) (fun g88 => ?_)
          refine j_iald C (tg_11_13 _ hr0) (inb_in g88) d_RM_write_109 ?_
          refine j_iadd C d_RM_write_110 ?_
          exact H77 ((224 : Int32) + (σ (wtg r0 13) a2.toNatClampNeg))
        · refine j_sipush (v := (254 : Int32)) C d_RM_write_95 (by decide) ?_
          refine j_goto (tgt := 111) C d_RM_write_98 (by decide) ?_
          exact H77 (254 : Int32)
set_option maxHeartbeats 4000000 in
set_option maxRecDepth 100000 in
theorem wL_RM_write_211 {F : Fx} (C : Ctx F prog_13_method_29_code 4 "LineFramesModel" (some .int) 6 147) {cv : Option (Int32 × Mem) → Option Rs} (h0 : cv none = none) (r0 : Nat) (hr0 : Is r0 11) (b1 : Int32) (hex : ∀ q : Int32 × Mem, J F 4 cv (some q) q.2 243 [(0, .ref (fad F r0)), (1, .int b1), (2, .int q.1)] []) : ∀ (n : Nat) (a2 : Int32) (σ : Mem), J F 4 cv (L_RM_write_211 r0 b1 n a2 σ) σ 211 [(0, .ref (fad F r0)), (1, .int b1), (2, .int a2)] [] := by
  intro n
  induction n with
  | zero => intro a2 σ hE; rw [L_RM_write_211, h0] at hE; cases hE
  | succ n ih =>
    intro a2 σ
    rw [L_RM_write_211]
    refine j_iload_n C d_RM_write_211 2 rfl ?_
    refine j_aload_n C d_RM_write_212 0 rfl ?_
    refine j_getI C hr0 fl_RM_110 rfl d_RM_write_213 ?_
    refine j_icmp_ge (tgt := 243) C d_RM_write_216 (by decide) (fun c100 => ?_) (fun c100 => ?_)
    · exact hex (a2, σ)
    · refine j_aload_n C d_RM_write_219 0 rfl ?_
      refine j_iload_n C d_RM_write_220 2 rfl ?_
      refine j_iconst (v := (1 : Int32)) C d_RM_write_221 (by decide) ?_
      refine j_iadd C d_RM_write_222 ?_
      refine j_bind (by exact h0) (fun σ102 e101 => ?_)
      refine j_callVv C mv_RM_149 [.int (a2 + (1 : Int32))] [] hr0 (c_RM_lay hr0 (a2 + (1 : Int32)) σ e101) rfl rfl (by decide) (Nat.le_of_ble_eq_true rfl) d_RM_write_223 ?_
      refine j_aload_n C d_RM_write_226 0 rfl ?_
      refine j_bipush (v := (17 : Int32)) C d_RM_write_227 (by decide) ?_
      refine j_bind (by exact h0) (fun σ104 e103 => ?_)
      refine j_callVv C mv_RM_149 [.int (17 : Int32)] [] hr0 (c_RM_lay hr0 (17 : Int32) σ102 e103) rfl rfl (by decide) (Nat.le_of_ble_eq_true rfl) d_RM_write_229 ?_
      refine j_aload_n C d_RM_write_232 0 rfl ?_
      refine j_iconst (v := (0 : Int32)) C d_RM_write_233 (by decide) ?_
      refine j_bind (by exact h0) (fun σ106 e105 => ?_)
      refine j_callVv C mv_RM_149 [.int (0 : Int32)] [] hr0 (c_RM_lay hr0 (0 : Int32) σ104 e105) rfl rfl (by decide) (Nat.le_of_ble_eq_true rfl) d_RM_write_234 ?_
      refine j_iinc (v := (a2 + (1 : Int32))) (lv9 := [(0, .ref (fad F r0)), (1, .int b1), (2, .int (a2 + (1 : Int32)))]) C d_RM_write_237 2 rfl rfl rfl rfl (by decide) ?_
      refine j_goto (tgt := 211) C d_RM_write_240 (by decide) ?_
      exact ih (a2 + (1 : Int32)) σ106
set_option maxHeartbeats 4000000 in
set_option maxRecDepth 100000 in
theorem wL_RM_write_344 {F : Fx} (C : Ctx F prog_13_method_29_code 4 "LineFramesModel" (some .int) 6 147) {cv : Option (Int32 × Mem) → Option Rs} (h0 : cv none = none) (r0 : Nat) (hr0 : Is r0 11) (b1 : Int32) (b2 : Int32) (hex : ∀ q : Int32 × Mem, J F 4 cv (some q) q.2 374 [(0, .ref (fad F r0)), (1, .int b1), (2, .int b2), (3, .int q.1)] []) : ∀ (n : Nat) (a3 : Int32) (σ : Mem), J F 4 cv (L_RM_write_344 r0 b1 b2 n a3 σ) σ 344 [(0, .ref (fad F r0)), (1, .int b1), (2, .int b2), (3, .int a3)] [] := by
  intro n
  induction n with
  | zero => intro a3 σ hE; rw [L_RM_write_344, h0] at hE; cases hE
  | succ n ih =>
    intro a3 σ
    rw [L_RM_write_344]
    refine j_iload_n C d_RM_write_344 3 rfl ?_
    refine j_aload_n C d_RM_write_345 0 rfl ?_
    refine j_getI C hr0 fl_RM_136 rfl d_RM_write_346 ?_
    refine j_icmp_gt (tgt := 374) C d_RM_write_349 (by decide) (fun c367 => ?_) (fun c367 => ?_)
    · exact hex (a3, σ)
    · refine j_aload_n C d_RM_write_352 0 rfl ?_
      refine j_aload_n C d_RM_write_353 0 rfl ?_
      refine j_getR C hr0 fl_RM_17 rfl d_RM_write_354 ?_
      refine j_sipush (v := (256 : Int32)) C d_RM_write_357 (by decide) ?_
      refine j_iload_n C d_RM_write_360 2 rfl ?_
      refine j_imul C d_RM_write_361 ?_
      refine j_iload_n C d_RM_write_362 3 rfl ?_
      refine j_iadd C d_RM_write_363 ?_
      refine j_need (by exact h0) (fun g368 => ?_)
      refine j_iald C (tg_11_8 _ hr0) (inb_in g368) d_RM_write_364 ?_
      refine j_bind (by exact h0) (fun σ370 e369 => ?_)
      refine j_callVv C mv_RM_153 [.int (σ (wtg r0 8) (((256 : Int32) * b2) + a3).toNatClampNeg)] [] hr0 (c_RM_layWide hr0 (σ (wtg r0 8) (((256 : Int32) * b2) + a3).toNatClampNeg) σ e369) rfl rfl (by decide) (Nat.le_of_ble_eq_true rfl) d_RM_write_365 ?_
      refine j_iinc (v := (a3 + (1 : Int32))) (lv9 := [(0, .ref (fad F r0)), (1, .int b1), (2, .int b2), (3, .int (a3 + (1 : Int32)))]) C d_RM_write_368 3 rfl rfl rfl rfl (by decide) ?_
      refine j_goto (tgt := 344) C d_RM_write_371 (by decide) ?_
      exact ih (a3 + (1 : Int32)) σ370
set_option maxHeartbeats 4000000 in
set_option maxRecDepth 100000 in
theorem wL_RM_write_291 {F : Fx} (C : Ctx F prog_13_method_29_code 4 "LineFramesModel" (some .int) 6 147) {cv : Option (Int32 × Mem) → Option Rs} (h0 : cv none = none) (r0 : Nat) (hr0 : Is r0 11) (b1 : Int32) (hex : ∀ q : Int32 × Mem, J F 4 cv (some q) q.2 380 [(0, .ref (fad F r0)), (1, .int b1), (2, .int q.1)] []) : ∀ (n : Nat) (a2 : Int32) (σ : Mem), J F 4 cv (L_RM_write_291 r0 b1 n a2 σ) σ 291 [(0, .ref (fad F r0)), (1, .int b1), (2, .int a2)] [] := by
  intro n
  induction n with
  | zero => intro a2 σ hE; rw [L_RM_write_291, h0] at hE; cases hE
  | succ n ih =>
    intro a2 σ
    rw [L_RM_write_291]
    refine j_iload_n C d_RM_write_291 2 rfl ?_
    refine j_aload_n C d_RM_write_292 0 rfl ?_
    refine j_getI C hr0 fl_RM_110 rfl d_RM_write_293 ?_
    refine j_icmp_ge (tgt := 380) C d_RM_write_296 (by decide) (fun c348 => ?_) (fun c348 => ?_)
    · exact hex (a2, σ)
    · refine j_aload_n C d_RM_write_299 0 rfl ?_
      refine j_getR C hr0 fl_RM_13 rfl d_RM_write_300 ?_
      refine j_iload_n C d_RM_write_303 2 rfl ?_
      refine j_need (by exact h0) (fun g349 => ?_)
      refine j_zald C (tg_11_7 _ hr0) (inb_in g349) d_RM_write_304 ?_
      refine j_join0m 374 (fun _ => [(0, .ref (fad F r0)), (1, .int b1), (2, .int a2)]) (fun _ => []) (fun σ355 => ?_) (fun K356 H357 => ?_)
      · refine j_iinc (v := (a2 + (1 : Int32))) (lv9 := [(0, .ref (fad F r0)), (1, .int b1), (2, .int (a2 + (1 : Int32)))]) C d_RM_write_374 2 rfl rfl rfl rfl (by decide) ?_
        refine j_goto (tgt := 291) C d_RM_write_377 (by decide) ?_
        exact ih (a2 + (1 : Int32)) σ355
      · refine j_if_eq (tgt := 374) C d_RM_write_305 (by decide) (fun c358 => ?_) (fun c358 => ?_)
        · exact H357 σ
        · refine j_aload_n C d_RM_write_308 0 rfl ?_
          refine j_sipush (v := (248 : Int32)) C d_RM_write_309 (by decide) ?_
          refine j_iconst (v := (5 : Int32)) C d_RM_write_312 (by decide) ?_
          refine j_iconst (v := (2 : Int32)) C d_RM_write_313 (by decide) ?_
          refine j_aload_n C d_RM_write_314 0 rfl ?_
          refine j_getI C hr0 fl_RM_136 rfl d_RM_write_315 ?_
          refine j_iconst (v := (1 : Int32)) C d_RM_write_318 (by decide) ?_
          refine j_iadd C d_RM_write_319 ?_
          refine j_imul C d_RM_write_320 ?_
          refine j_iadd C d_RM_write_321 ?_
          refine j_bind (by exact h0) (fun σ360 e359 => ?_)
          refine j_callVv C mv_RM_198 [.int (248 : Int32), .int ((5 : Int32) + ((2 : Int32) * ((σ r0 55) + (1 : Int32))))] [] hr0 (c_RM_mark hr0 (248 : Int32) ((5 : Int32) + ((2 : Int32) * ((σ r0 55) + (1 : Int32)))) σ e359) rfl rfl (by decide) (Nat.le_of_ble_eq_true rfl) d_RM_write_322 ?_
          refine j_aload_n C d_RM_write_325 0 rfl ?_
          refine j_iconst (v := (2 : Int32)) C d_RM_write_326 (by decide) ?_
          refine j_bind (by exact h0) (fun σ362 e361 => ?_)
          refine j_callVv C mv_RM_149 [.int (2 : Int32)] [] hr0 (c_RM_lay hr0 (2 : Int32) σ360 e361) rfl rfl (by decide) (Nat.le_of_ble_eq_true rfl) d_RM_write_327 ?_
          refine j_aload_n C d_RM_write_330 0 rfl ?_
          refine j_iload_n C d_RM_write_331 2 rfl ?_
          refine j_iconst (v := (1 : Int32)) C d_RM_write_332 (by decide) ?_
          refine j_iadd C d_RM_write_333 ?_
          refine j_bind (by exact h0) (fun σ364 e363 => ?_)
          refine j_callVv C mv_RM_149 [.int (a2 + (1 : Int32))] [] hr0 (c_RM_lay hr0 (a2 + (1 : Int32)) σ362 e363) rfl rfl (by decide) (Nat.le_of_ble_eq_true rfl) d_RM_write_334 ?_
          refine j_aload_n C d_RM_write_337 0 rfl ?_
          refine j_iconst (v := (2 : Int32)) C d_RM_write_338 (by decide) ?_
          refine j_bind (by exact h0) (fun σ366 e365 => ?_)
          refine j_callVv C mv_RM_149 [.int (2 : Int32)] [] hr0 (c_RM_lay hr0 (2 : Int32) σ364 e365) rfl rfl (by decide) (Nat.le_of_ble_eq_true rfl) d_RM_write_339 ?_
          refine j_iconst (v := (0 : Int32)) C d_RM_write_342 (by decide) ?_
          refine j_istore_n (lv9 := [(0, .ref (fad F r0)), (1, .int b1), (2, .int a2), (3, .int (0 : Int32))]) C d_RM_write_343 rfl rfl (by decide) ?_
          refine j_loop (wL_RM_write_344 C (by exact h0) r0 hr0 b1 a2 (fun q371 => j_some ?_) 9999 (0 : Int32) σ366)
          refine j_sub (lv9 := [(0, .ref (fad F r0)), (1, .int b1), (2, .int a2)]) [0, 1, 2] rfl ?_
          exact H357 q371.2
set_option maxHeartbeats 4000000 in
set_option maxRecDepth 100000 in
theorem wL_RM_write_420 {F : Fx} (C : Ctx F prog_13_method_29_code 4 "LineFramesModel" (some .int) 6 147) {cv : Option (Int32 × Mem) → Option Rs} (h0 : cv none = none) (r0 : Nat) (hr0 : Is r0 11) (b1 : Int32) (hex : ∀ q : Int32 × Mem, J F 4 cv (some q) q.2 443 [(0, .ref (fad F r0)), (1, .int b1), (2, .int q.1)] []) : ∀ (n : Nat) (a2 : Int32) (σ : Mem), J F 4 cv (L_RM_write_420 r0 b1 n a2 σ) σ 420 [(0, .ref (fad F r0)), (1, .int b1), (2, .int a2)] [] := by
  intro n
  induction n with
  | zero => intro a2 σ hE; rw [L_RM_write_420, h0] at hE; cases hE
  | succ n ih =>
    intro a2 σ
    rw [L_RM_write_420]
    refine j_iload_n C d_RM_write_420 2 rfl ?_
    refine j_aload_n C d_RM_write_421 0 rfl ?_
    refine j_getI C hr0 fl_RM_110 rfl d_RM_write_422 ?_
    refine j_icmp_ge (tgt := 443) C d_RM_write_425 (by decide) (fun c628 => ?_) (fun c628 => ?_)
    · exact hex (a2, σ)
    · refine j_aload_n C d_RM_write_428 0 rfl ?_
      refine j_iload_n C d_RM_write_429 2 rfl ?_
      refine j_iload_n C d_RM_write_430 2 rfl ?_
      refine j_iconst (v := (1 : Int32)) C d_RM_write_431 (by decide) ?_
      refine j_iadd C d_RM_write_432 ?_
      refine j_iconst (v := (0 : Int32)) C d_RM_write_433 (by decide) ?_
      refine j_bind (by exact h0) (fun σ630 e629 => ?_)
      refine j_callVv C mv_RM_204 [.int a2, .int (a2 + (1 : Int32)), .int (0 : Int32)] [] hr0 (c_RM_scan hr0 a2 (a2 + (1 : Int32)) (0 : Int32) σ e629) rfl rfl (by decide) (Nat.le_of_ble_eq_true rfl) d_RM_write_434 ?_
      refine j_iinc (v := (a2 + (1 : Int32))) (lv9 := [(0, .ref (fad F r0)), (1, .int b1), (2, .int (a2 + (1 : Int32)))]) C d_RM_write_437 2 rfl rfl rfl rfl (by decide) ?_
      refine j_goto (tgt := 420) C d_RM_write_440 (by decide) ?_
      exact ih (a2 + (1 : Int32)) σ630
set_option maxHeartbeats 4000000 in
set_option maxRecDepth 100000 in
theorem w_RM_write {F : Fx} (C : Ctx F prog_13_method_29_code 4 "LineFramesModel" (some .int) 6 147) {k0 : Nat} (h0k : Is k0 11) (x1 : Int32) (σ : Mem) : J F 4 (cvO cvIM) (f_RM_write k0 x1 σ) σ 0 [(0, .ref (fad F k0)), (1, .int x1)] [] := by
  unfold f_RM_write
  refine j_aload_n C d_RM_write_0 0 rfl ?_
  refine j_aload_n C d_RM_write_1 0 rfl ?_
  refine j_getI C h0k fl_RM_110 rfl d_RM_write_2 ?_
  refine d_if_ne (a := (1 : Int32)) (b := (if (f_RM_isIn x1 (0 : Int32) (3 : Int32) σ) = 0 then (2 : Int32) else (0 : Int32))) (jp := 26) (tgt := 12) C d_RM_write_5 (by decide) (fun c1 k2 => ?_) (fun c1 k2 => ?_) ?_
  · refine j_iload_n C d_RM_write_12 1 rfl ?_
    refine j_iconst (v := (0 : Int32)) C d_RM_write_13 (by decide) ?_
    refine j_iconst (v := (3 : Int32)) C d_RM_write_14 (by decide) ?_
    refine j_callSi C ms_RM_93 [.int x1, .int (0 : Int32), .int (3 : Int32)] [.ref (fad F k0)] (c_RM_isIn x1 (0 : Int32) (3 : Int32) σ) rfl rfl (by decide) (Nat.le_of_ble_eq_true rfl) d_RM_write_15 ?_
    refine d_if_ne (a := (2 : Int32)) (b := (0 : Int32)) (jp := 26) (tgt := 25) C d_RM_write_18 (by decide) (fun c3 k4 => ?_) (fun c3 k4 => ?_) ?_
    · refine j_iconst (v := (0 : Int32)) C d_RM_write_25 (by decide) ?_
      exact k4
    · refine j_iconst (v := (2 : Int32)) C d_RM_write_21 (by decide) ?_
      refine j_goto (tgt := 26) C d_RM_write_22 (by decide) ?_
      exact k4
    exact k2
  · refine j_iconst (v := (1 : Int32)) C d_RM_write_8 (by decide) ?_
    refine j_goto (tgt := 26) C d_RM_write_9 (by decide) ?_
    exact k2
  refine j_put C h0k fl_RM_90 fw_11_1 rfl rfl rfl d_RM_write_26 (fun σ5 => ?_)
  refine j_aload_n C d_RM_write_29 0 rfl ?_
  refine j_getI C h0k fl_RM_90 rfl d_RM_write_30 ?_
  refine j_if_le (tgt := 38) C d_RM_write_33 (by decide) (fun c6 => ?_) (fun c6 => ?_)
  · refine j_aload_n C d_RM_write_38 0 rfl ?_
    refine j_iload_n C d_RM_write_39 1 rfl ?_
    refine j_put C h0k fl_RM_133 fw_11_54 rfl rfl rfl d_RM_write_40 (fun σ7 => ?_)
    refine j_aload_n C d_RM_write_43 0 rfl ?_
    refine j_aload_n C d_RM_write_44 0 rfl ?_
    refine j_getI C h0k fl_RM_107 rfl d_RM_write_45 ?_
    refine j_callSi C ms_RM_129 [.int (σ7 k0 4)] [.ref (fad F k0)] (c_RM_topOf (σ7 k0 4) σ7) rfl rfl (by decide) (Nat.le_of_ble_eq_true rfl) d_RM_write_48 ?_
    refine j_put C h0k fl_RM_136 fw_11_55 rfl rfl rfl d_RM_write_51 (fun σ8 => ?_)
    refine j_aload_n C d_RM_write_54 0 rfl ?_
    refine j_iconst (v := (0 : Int32)) C d_RM_write_55 (by decide) ?_
    refine j_put C h0k fl_RM_146 fw_11_17 rfl rfl rfl d_RM_write_56 (fun σ9 => ?_)
    refine j_aload_n C d_RM_write_59 0 rfl ?_
    refine j_sipush (v := (255 : Int32)) C d_RM_write_60 (by decide) ?_
    refine j_bind rfl (fun σ11 e10 => ?_)
    refine j_callVv C mv_RM_149 [.int (255 : Int32)] [] h0k (c_RM_lay h0k (255 : Int32) σ9 e10) rfl rfl (by decide) (Nat.le_of_ble_eq_true rfl) d_RM_write_63 ?_
    refine j_aload_n C d_RM_write_66 0 rfl ?_
    refine j_sipush (v := (216 : Int32)) C d_RM_write_67 (by decide) ?_
    refine j_bind rfl (fun σ13 e12 => ?_)
    refine j_callVv C mv_RM_149 [.int (216 : Int32)] [] h0k (c_RM_lay h0k (216 : Int32) σ11 e12) rfl rfl (by decide) (Nat.le_of_ble_eq_true rfl) d_RM_write_70 ?_
    refine j_iconst (v := (0 : Int32)) C d_RM_write_73 (by decide) ?_
    refine j_istore_n (lv9 := [(0, .ref (fad F k0)), (1, .int x1), (2, .int (0 : Int32))]) C d_RM_write_74 rfl rfl (by decide) ?_
    refine j_loop (wL_RM_write_75 C rfl k0 h0k x1 (fun q89 => j_some ?_) 9999 (0 : Int32) σ13)
    refine j_aload_n C d_RM_write_161 0 rfl ?_
    refine j_sipush (v := (247 : Int32)) C d_RM_write_162 (by decide) ?_
    refine j_bipush (v := (8 : Int32)) C d_RM_write_165 (by decide) ?_
    refine j_iconst (v := (3 : Int32)) C d_RM_write_167 (by decide) ?_
    refine j_aload_n C d_RM_write_168 0 rfl ?_
    refine j_getI C h0k fl_RM_110 rfl d_RM_write_169 ?_
    refine j_imul C d_RM_write_172 ?_
    refine j_iadd C d_RM_write_173 ?_
    refine j_bind rfl (fun σ91 e90 => ?_)
    refine j_callVv C mv_RM_198 [.int (247 : Int32), .int ((8 : Int32) + ((3 : Int32) * (q89.2 k0 5)))] [] h0k (c_RM_mark h0k (247 : Int32) ((8 : Int32) + ((3 : Int32) * (q89.2 k0 5))) q89.2 e90) rfl rfl (by decide) (Nat.le_of_ble_eq_true rfl) d_RM_write_174 ?_
    refine j_aload_n C d_RM_write_177 0 rfl ?_
    refine j_aload_n C d_RM_write_178 0 rfl ?_
    refine j_getI C h0k fl_RM_107 rfl d_RM_write_179 ?_
    refine j_bind rfl (fun σ93 e92 => ?_)
    refine j_callVv C mv_RM_149 [.int (σ91 k0 4)] [] h0k (c_RM_lay h0k (σ91 k0 4) σ91 e92) rfl rfl (by decide) (Nat.le_of_ble_eq_true rfl) d_RM_write_182 ?_
    refine j_aload_n C d_RM_write_185 0 rfl ?_
    refine j_aload_n C d_RM_write_186 0 rfl ?_
    refine j_getI C h0k fl_RM_104 rfl d_RM_write_187 ?_
    refine j_bind rfl (fun σ95 e94 => ?_)
    refine j_callVv C mv_RM_153 [.int (σ93 k0 3)] [] h0k (c_RM_layWide h0k (σ93 k0 3) σ93 e94) rfl rfl (by decide) (Nat.le_of_ble_eq_true rfl) d_RM_write_190 ?_
    refine j_aload_n C d_RM_write_193 0 rfl ?_
    refine j_aload_n C d_RM_write_194 0 rfl ?_
    refine j_getI C h0k fl_RM_101 rfl d_RM_write_195 ?_
    refine j_bind rfl (fun σ97 e96 => ?_)
    refine j_callVv C mv_RM_153 [.int (σ95 k0 2)] [] h0k (c_RM_layWide h0k (σ95 k0 2) σ95 e96) rfl rfl (by decide) (Nat.le_of_ble_eq_true rfl) d_RM_write_198 ?_
    refine j_aload_n C d_RM_write_201 0 rfl ?_
    refine j_aload_n C d_RM_write_202 0 rfl ?_
    refine j_getI C h0k fl_RM_110 rfl d_RM_write_203 ?_
    refine j_bind rfl (fun σ99 e98 => ?_)
    refine j_callVv C mv_RM_149 [.int (σ97 k0 5)] [] h0k (c_RM_lay h0k (σ97 k0 5) σ97 e98) rfl rfl (by decide) (Nat.le_of_ble_eq_true rfl) d_RM_write_206 ?_
    refine j_iconst (v := (0 : Int32)) C d_RM_write_209 (by decide) ?_
    refine j_istore_n (lv9 := [(0, .ref (fad F k0)), (1, .int x1), (2, .int (0 : Int32))]) C d_RM_write_210 rfl rfl (by decide) ?_
    refine j_loop (wL_RM_write_211 C rfl k0 h0k x1 (fun q107 => j_some ?_) 9999 (0 : Int32) σ99)
    refine j_aload_n C d_RM_write_243 0 rfl ?_
    refine j_getI C h0k fl_RM_113 rfl d_RM_write_244 ?_
    refine j_bipush (v := (64 : Int32)) C d_RM_write_247 (by decide) ?_
    refine j_join0m 289 (fun _ => [(0, .ref (fad F k0)), (1, .int x1), (2, .int q107.1)]) (fun _ => []) (fun σ345 => ?_) (fun K346 H347 => ?_)
    · refine j_iconst (v := (0 : Int32)) C d_RM_write_289 (by decide) ?_
      refine j_istore_n (lv9 := [(0, .ref (fad F k0)), (1, .int x1), (2, .int (0 : Int32))]) C d_RM_write_290 rfl rfl (by decide) ?_
      refine j_loop (wL_RM_write_291 C rfl k0 h0k x1 (fun q372 => j_some ?_) 9999 (0 : Int32) σ345)
      refine j_aload_n C d_RM_write_380 0 rfl ?_
      refine j_getI C h0k fl_RM_119 rfl d_RM_write_381 ?_
      refine j_join0m 403 (fun _ => [(0, .ref (fad F k0)), (1, .int x1), (2, .int q372.1)]) (fun _ => []) (fun σ526 => ?_) (fun K527 H528 => ?_)
      · refine j_aload_n C d_RM_write_403 0 rfl ?_
        refine j_getI C h0k fl_RM_86 rfl d_RM_write_404 ?_
        refine j_join1m 459 (fun y582 _ => [(0, .ref (fad F k0)), (1, .int x1), (2, .int y582)]) (fun _ _ => []) (fun y582 σ583 => ?_) (fun K584 H585 => ?_)
        · refine j_aload_n C d_RM_write_459 0 rfl ?_
          refine j_sipush (v := (255 : Int32)) C d_RM_write_460 (by decide) ?_
          refine j_bind rfl (fun σ587 e586 => ?_)
          refine j_callVv C mv_RM_149 [.int (255 : Int32)] [] h0k (c_RM_lay h0k (255 : Int32) σ583 e586) rfl rfl (by decide) (Nat.le_of_ble_eq_true rfl) d_RM_write_463 ?_
          refine j_aload_n C d_RM_write_466 0 rfl ?_
          refine j_sipush (v := (217 : Int32)) C d_RM_write_467 (by decide) ?_
          refine j_bind rfl (fun σ589 e588 => ?_)
          refine j_callVv C mv_RM_149 [.int (217 : Int32)] [] h0k (c_RM_lay h0k (217 : Int32) σ587 e588) rfl rfl (by decide) (Nat.le_of_ble_eq_true rfl) d_RM_write_470 ?_
          refine j_aload_n C d_RM_write_473 0 rfl ?_
          refine j_getI C h0k fl_RM_146 rfl d_RM_write_474 ?_
          exact j_ireti C (fun ρ h => leaf_eq h) d_RM_write_477
        · refine j_join0m 418 (fun _ => [(0, .ref (fad F k0)), (1, .int x1), (2, .int q372.1)]) (fun _ => []) (fun σ625 => ?_) (fun K626 H627 => ?_)
          · refine j_iconst (v := (0 : Int32)) C d_RM_write_418 (by decide) ?_
            refine j_istore_n (lv9 := [(0, .ref (fad F k0)), (1, .int x1), (2, .int (0 : Int32))]) C d_RM_write_419 rfl rfl (by decide) ?_
            refine j_loop (wL_RM_write_420 C rfl k0 h0k x1 (fun q631 => j_some ?_) 9999 (0 : Int32) σ625)
            refine j_goto (tgt := 459) C d_RM_write_443 (by decide) ?_
            exact H585 q631.1 q631.2
          · refine j_if_eq (tgt := 418) C d_RM_write_407 (by decide) (fun c632 => ?_) (fun c632 => ?_)
            · exact H627 σ526
            · refine j_aload_n C d_RM_write_410 0 rfl ?_
              refine j_getI C h0k fl_RM_110 rfl d_RM_write_411 ?_
              refine j_iconst (v := (1 : Int32)) C d_RM_write_414 (by decide) ?_
              refine j_icmp_ne (tgt := 446) C d_RM_write_415 (by decide) (fun c633 => ?_) (fun c633 => ?_)
              · refine j_aload_n C d_RM_write_446 0 rfl ?_
                refine j_iconst (v := (0 : Int32)) C d_RM_write_447 (by decide) ?_
                refine j_aload_n C d_RM_write_448 0 rfl ?_
                refine j_getI C h0k fl_RM_110 rfl d_RM_write_449 ?_
                refine j_aload_n C d_RM_write_452 0 rfl ?_
                refine j_getI C h0k fl_RM_86 rfl d_RM_write_453 ?_
                refine j_bind rfl (fun σ635 e634 => ?_)
                refine j_callVv C mv_RM_204 [.int (0 : Int32), .int (σ526 k0 5), .int (σ526 k0 0)] [] h0k (c_RM_scan h0k (0 : Int32) (σ526 k0 5) (σ526 k0 0) σ526 e634) rfl rfl (by decide) (Nat.le_of_ble_eq_true rfl) d_RM_write_456 ?_
                exact H585 q372.1 σ635
              · exact H627 σ526
      · refine j_if_le (tgt := 403) C d_RM_write_384 (by decide) (fun c636 => ?_) (fun c636 => ?_)
        · exact H528 q372.2
        · refine j_aload_n C d_RM_write_387 0 rfl ?_
          refine j_sipush (v := (221 : Int32)) C d_RM_write_388 (by decide) ?_
          refine j_iconst (v := (4 : Int32)) C d_RM_write_391 (by decide) ?_
          refine j_bind rfl (fun σ638 e637 => ?_)
          refine j_callVv C mv_RM_198 [.int (221 : Int32), .int (4 : Int32)] [] h0k (c_RM_mark h0k (221 : Int32) (4 : Int32) q372.2 e637) rfl rfl (by decide) (Nat.le_of_ble_eq_true rfl) d_RM_write_392 ?_
          refine j_aload_n C d_RM_write_395 0 rfl ?_
          refine j_aload_n C d_RM_write_396 0 rfl ?_
          refine j_getI C h0k fl_RM_119 rfl d_RM_write_397 ?_
          refine j_bind rfl (fun σ640 e639 => ?_)
          refine j_callVv C mv_RM_153 [.int (σ638 k0 11)] [] h0k (c_RM_layWide h0k (σ638 k0 11) σ638 e639) rfl rfl (by decide) (Nat.le_of_ble_eq_true rfl) d_RM_write_400 ?_
          exact H528 σ640
    · refine j_join0 260 ([(0, .ref (fad F k0)), (1, .int x1), (2, .int q107.1)]) ([]) (?_) (fun K672 H673 => ?_)
      · refine j_aload_n C d_RM_write_260 0 rfl ?_
        refine j_sipush (v := (248 : Int32)) C d_RM_write_261 (by decide) ?_
        refine j_iconst (v := (5 : Int32)) C d_RM_write_264 (by decide) ?_
        refine j_bind rfl (fun σ675 e674 => ?_)
        refine j_callVv C mv_RM_198 [.int (248 : Int32), .int (5 : Int32)] [] h0k (c_RM_mark h0k (248 : Int32) (5 : Int32) q107.2 e674) rfl rfl (by decide) (Nat.le_of_ble_eq_true rfl) d_RM_write_265 ?_
        refine j_aload_n C d_RM_write_268 0 rfl ?_
        refine j_iconst (v := (1 : Int32)) C d_RM_write_269 (by decide) ?_
        refine j_bind rfl (fun σ677 e676 => ?_)
        refine j_callVv C mv_RM_149 [.int (1 : Int32)] [] h0k (c_RM_lay h0k (1 : Int32) σ675 e676) rfl rfl (by decide) (Nat.le_of_ble_eq_true rfl) d_RM_write_270 ?_
        refine j_aload_n C d_RM_write_273 0 rfl ?_
        refine j_aload_n C d_RM_write_274 0 rfl ?_
        refine j_getI C h0k fl_RM_113 rfl d_RM_write_275 ?_
        refine j_bind rfl (fun σ679 e678 => ?_)
        refine j_callVv C mv_RM_149 [.int (σ677 k0 9)] [] h0k (c_RM_lay h0k (σ677 k0 9) σ677 e678) rfl rfl (by decide) (Nat.le_of_ble_eq_true rfl) d_RM_write_278 ?_
        refine j_aload_n C d_RM_write_281 0 rfl ?_
        refine j_aload_n C d_RM_write_282 0 rfl ?_
        refine j_getI C h0k fl_RM_116 rfl d_RM_write_283 ?_
        refine j_bind rfl (fun σ681 e680 => ?_)
        refine j_callVv C mv_RM_149 [.int (σ679 k0 10)] [] h0k (c_RM_lay h0k (σ679 k0 10) σ679 e680) rfl rfl (by decide) (Nat.le_of_ble_eq_true rfl) d_RM_write_286 ?_
        exact H347 σ681
      · refine j_icmp_ne (tgt := 260) C d_RM_write_249 (by decide) (fun c682 => ?_) (fun c682 => ?_)
        · exact H673
        · refine j_aload_n C d_RM_write_252 0 rfl ?_
          refine j_getI C h0k fl_RM_116 rfl d_RM_write_253 ?_
          refine j_iconst (v := (4 : Int32)) C d_RM_write_256 (by decide) ?_
          refine j_icmp_eq (tgt := 289) C d_RM_write_257 (by decide) (fun c683 => ?_) (fun c683 => ?_)
          · exact H347 q107.2
          · exact H673
  · refine j_iconst (v := (0 : Int32)) C d_RM_write_36 (by decide) ?_
    exact j_ireti C (fun ρ h => leaf_eq h) d_RM_write_37
theorem c_RM_write {l : Launch} {D : va_G} {G : GC} {ad : Nat → Nat} {k0 : Nat} (h0k : Is k0 11) (x1 : Int32) (σ : Mem) {q : Int32 × Mem} (hq : f_RM_write k0 x1 σ = some q) : Ctr l D G ad ⟨"LineFramesModel", "write", "(I)I"⟩ prog_13_method_29_code 4 (some .int) 6 147 [.ref (ad k0), .int x1] σ (.inl (some (.int q.1)), q.2) := ctr_J (cv := (cvO cvIM)) (E := f_RM_write k0 x1 σ) (by decide +kernel) (Nat.le_of_ble_eq_true rfl) (by rw [hq]; rfl) (fun F h C => by subst h; exact w_RM_write C h0k x1 σ)
/-! LineFramesModel byteAt (I)I -/
theorem d_RM_byteAt_0 : decode prog_13_method_30_code 0 = .ok (.aload_n 0, 1) := by decide +kernel
theorem d_RM_byteAt_1 : decode prog_13_method_30_code 1 = .ok (.iload_n 1, 1) := by decide +kernel
theorem d_RM_byteAt_2 : decode prog_13_method_30_code 2 = .ok (.iconst 0, 1) := by decide +kernel
theorem d_RM_byteAt_3 : decode prog_13_method_30_code 3 = .ok (.aload_n 0, 1) := by decide +kernel
theorem d_RM_byteAt_4 : decode prog_13_method_30_code 4 = .ok (.getfield 146, 3) := by decide +kernel
theorem d_RM_byteAt_7 : decode prog_13_method_30_code 7 = .ok (.iconst 1, 1) := by decide +kernel
theorem d_RM_byteAt_8 : decode prog_13_method_30_code 8 = .ok (.isub, 1) := by decide +kernel
theorem d_RM_byteAt_9 : decode prog_13_method_30_code 9 = .ok (.invokestatic 93, 3) := by decide +kernel
theorem d_RM_byteAt_12 : decode prog_13_method_30_code 12 = .ok (.ifCond .eq 7, 3) := by decide +kernel
theorem d_RM_byteAt_15 : decode prog_13_method_30_code 15 = .ok (.iconst 0, 1) := by decide +kernel
theorem d_RM_byteAt_16 : decode prog_13_method_30_code 16 = .ok (.goto 4, 3) := by decide +kernel
theorem d_RM_byteAt_19 : decode prog_13_method_30_code 19 = .ok (.iconst 1, 1) := by decide +kernel
theorem d_RM_byteAt_20 : decode prog_13_method_30_code 20 = .ok (.putfield 90, 3) := by decide +kernel
theorem d_RM_byteAt_23 : decode prog_13_method_30_code 23 = .ok (.aload_n 0, 1) := by decide +kernel
theorem d_RM_byteAt_24 : decode prog_13_method_30_code 24 = .ok (.getfield 90, 3) := by decide +kernel
theorem d_RM_byteAt_27 : decode prog_13_method_30_code 27 = .ok (.ifCond .le 7, 3) := by decide +kernel
theorem d_RM_byteAt_30 : decode prog_13_method_30_code 30 = .ok (.iconst 0, 1) := by decide +kernel
theorem d_RM_byteAt_31 : decode prog_13_method_30_code 31 = .ok (.goto 9, 3) := by decide +kernel
theorem d_RM_byteAt_34 : decode prog_13_method_30_code 34 = .ok (.aload_n 0, 1) := by decide +kernel
theorem d_RM_byteAt_35 : decode prog_13_method_30_code 35 = .ok (.getfield 29, 3) := by decide +kernel
theorem d_RM_byteAt_38 : decode prog_13_method_30_code 38 = .ok (.iload_n 1, 1) := by decide +kernel
theorem d_RM_byteAt_39 : decode prog_13_method_30_code 39 = .ok (.iaload, 1) := by decide +kernel
theorem d_RM_byteAt_40 : decode prog_13_method_30_code 40 = .ok (.ireturn, 1) := by decide +kernel
def f_RM_byteAt (k0 : Nat) (x1 : Int32) (σ : Mem) : Option (Int32 × Mem) :=
  lt (mput σ k0 1 (if (f_RM_isIn x1 (0 : Int32) ((σ k0 17) - (1 : Int32)) σ) = 0 then (1 : Int32) else (0 : Int32))) fun σ3 =>
  if (σ3 k0 1) ≤ 0 then
  if inb x1 (wln (wtg k0 16)) = true then
  some ((σ3 (wtg k0 16) x1.toNatClampNeg), σ3)
  else none
  else
  some ((0 : Int32), σ3)
set_option maxHeartbeats 4000000 in
set_option maxRecDepth 100000 in
theorem w_RM_byteAt {F : Fx} (C : Ctx F prog_13_method_30_code 2 "LineFramesModel" (some .int) 1 22) {k0 : Nat} (h0k : Is k0 11) (x1 : Int32) (σ : Mem) : J F 2 (cvO cvIM) (f_RM_byteAt k0 x1 σ) σ 0 [(0, .ref (fad F k0)), (1, .int x1)] [] := by
  unfold f_RM_byteAt
  refine j_aload_n C d_RM_byteAt_0 0 rfl ?_
  refine j_iload_n C d_RM_byteAt_1 1 rfl ?_
  refine j_iconst (v := (0 : Int32)) C d_RM_byteAt_2 (by decide) ?_
  refine j_aload_n C d_RM_byteAt_3 0 rfl ?_
  refine j_getI C h0k fl_RM_146 rfl d_RM_byteAt_4 ?_
  refine j_iconst (v := (1 : Int32)) C d_RM_byteAt_7 (by decide) ?_
  refine j_isub C d_RM_byteAt_8 ?_
  refine j_callSi C ms_RM_93 [.int x1, .int (0 : Int32), .int ((σ k0 17) - (1 : Int32))] [.ref (fad F k0)] (c_RM_isIn x1 (0 : Int32) ((σ k0 17) - (1 : Int32)) σ) rfl rfl (by decide) (Nat.le_of_ble_eq_true rfl) d_RM_byteAt_9 ?_
  refine d_if_eq (a := (1 : Int32)) (b := (0 : Int32)) (jp := 20) (tgt := 19) C d_RM_byteAt_12 (by decide) (fun c1 k2 => ?_) (fun c1 k2 => ?_) ?_
  · refine j_iconst (v := (1 : Int32)) C d_RM_byteAt_19 (by decide) ?_
    exact k2
  · refine j_iconst (v := (0 : Int32)) C d_RM_byteAt_15 (by decide) ?_
    refine j_goto (tgt := 20) C d_RM_byteAt_16 (by decide) ?_
    exact k2
  refine j_put C h0k fl_RM_90 fw_11_1 rfl rfl rfl d_RM_byteAt_20 (fun σ3 => ?_)
  refine j_aload_n C d_RM_byteAt_23 0 rfl ?_
  refine j_getI C h0k fl_RM_90 rfl d_RM_byteAt_24 ?_
  refine j_if_le (tgt := 34) C d_RM_byteAt_27 (by decide) (fun c6 => ?_) (fun c6 => ?_)
  · refine j_aload_n C d_RM_byteAt_34 0 rfl ?_
    refine j_getR C h0k fl_RM_29 rfl d_RM_byteAt_35 ?_
    refine j_iload_n C d_RM_byteAt_38 1 rfl ?_
    refine j_need rfl (fun g7 => ?_)
    refine j_iald C (tg_11_16 _ h0k) (inb_in g7) d_RM_byteAt_39 ?_
    exact j_ireti C (fun ρ h => leaf_eq h) d_RM_byteAt_40
  · refine j_iconst (v := (0 : Int32)) C d_RM_byteAt_30 (by decide) ?_
    refine j_goto (tgt := 40) C d_RM_byteAt_31 (by decide) ?_
    exact j_ireti C (fun ρ h => leaf_eq h) d_RM_byteAt_40
theorem c_RM_byteAt {l : Launch} {D : va_G} {G : GC} {ad : Nat → Nat} {k0 : Nat} (h0k : Is k0 11) (x1 : Int32) (σ : Mem) {q : Int32 × Mem} (hq : f_RM_byteAt k0 x1 σ = some q) : Ctr l D G ad ⟨"LineFramesModel", "byteAt", "(I)I"⟩ prog_13_method_30_code 2 (some .int) 1 22 [.ref (ad k0), .int x1] σ (.inl (some (.int q.1)), q.2) := ctr_J (cv := (cvO cvIM)) (E := f_RM_byteAt k0 x1 σ) (by decide +kernel) (Nat.le_of_ble_eq_true rfl) (by rw [hq]; rfl) (fun F h C => by subst h; exact w_RM_byteAt C h0k x1 σ)
/-! LineFramesModel feed (I)I -/
theorem d_RM_feed_0 : decode prog_13_method_31_code 0 = .ok (.aload_n 0, 1) := by decide +kernel
theorem d_RM_feed_1 : decode prog_13_method_31_code 1 = .ok (.iload_n 1, 1) := by decide +kernel
theorem d_RM_feed_2 : decode prog_13_method_31_code 2 = .ok (.iconst 0, 1) := by decide +kernel
theorem d_RM_feed_3 : decode prog_13_method_31_code 3 = .ok (.sipush 255, 3) := by decide +kernel
theorem d_RM_feed_6 : decode prog_13_method_31_code 6 = .ok (.invokestatic 93, 3) := by decide +kernel
theorem d_RM_feed_9 : decode prog_13_method_31_code 9 = .ok (.ifCond .ne 7, 3) := by decide +kernel
theorem d_RM_feed_12 : decode prog_13_method_31_code 12 = .ok (.iconst 1, 1) := by decide +kernel
theorem d_RM_feed_13 : decode prog_13_method_31_code 13 = .ok (.goto 18, 3) := by decide +kernel
theorem d_RM_feed_16 : decode prog_13_method_31_code 16 = .ok (.aload_n 0, 1) := by decide +kernel
theorem d_RM_feed_17 : decode prog_13_method_31_code 17 = .ok (.getfield 207, 3) := by decide +kernel
theorem d_RM_feed_20 : decode prog_13_method_31_code 20 = .ok (.sipush 6000, 3) := by decide +kernel
theorem d_RM_feed_23 : decode prog_13_method_31_code 23 = .ok (.if_icmp .ne 7, 3) := by decide +kernel
theorem d_RM_feed_26 : decode prog_13_method_31_code 26 = .ok (.iconst 2, 1) := by decide +kernel
theorem d_RM_feed_27 : decode prog_13_method_31_code 27 = .ok (.goto 4, 3) := by decide +kernel
theorem d_RM_feed_30 : decode prog_13_method_31_code 30 = .ok (.iconst 0, 1) := by decide +kernel
theorem d_RM_feed_31 : decode prog_13_method_31_code 31 = .ok (.putfield 90, 3) := by decide +kernel
theorem d_RM_feed_34 : decode prog_13_method_31_code 34 = .ok (.aload_n 0, 1) := by decide +kernel
theorem d_RM_feed_35 : decode prog_13_method_31_code 35 = .ok (.getfield 90, 3) := by decide +kernel
theorem d_RM_feed_38 : decode prog_13_method_31_code 38 = .ok (.ifCond .le 5, 3) := by decide +kernel
theorem d_RM_feed_41 : decode prog_13_method_31_code 41 = .ok (.iconst 0, 1) := by decide +kernel
theorem d_RM_feed_42 : decode prog_13_method_31_code 42 = .ok (.ireturn, 1) := by decide +kernel
theorem d_RM_feed_43 : decode prog_13_method_31_code 43 = .ok (.aload_n 0, 1) := by decide +kernel
theorem d_RM_feed_44 : decode prog_13_method_31_code 44 = .ok (.getfield 32, 3) := by decide +kernel
theorem d_RM_feed_47 : decode prog_13_method_31_code 47 = .ok (.aload_n 0, 1) := by decide +kernel
theorem d_RM_feed_48 : decode prog_13_method_31_code 48 = .ok (.getfield 207, 3) := by decide +kernel
theorem d_RM_feed_51 : decode prog_13_method_31_code 51 = .ok (.iload_n 1, 1) := by decide +kernel
theorem d_RM_feed_52 : decode prog_13_method_31_code 52 = .ok (.iastore, 1) := by decide +kernel
theorem d_RM_feed_53 : decode prog_13_method_31_code 53 = .ok (.aload_n 0, 1) := by decide +kernel
theorem d_RM_feed_54 : decode prog_13_method_31_code 54 = .ok (.dup, 1) := by decide +kernel
theorem d_RM_feed_55 : decode prog_13_method_31_code 55 = .ok (.getfield 207, 3) := by decide +kernel
theorem d_RM_feed_58 : decode prog_13_method_31_code 58 = .ok (.iconst 1, 1) := by decide +kernel
theorem d_RM_feed_59 : decode prog_13_method_31_code 59 = .ok (.iadd, 1) := by decide +kernel
theorem d_RM_feed_60 : decode prog_13_method_31_code 60 = .ok (.putfield 207, 3) := by decide +kernel
theorem d_RM_feed_63 : decode prog_13_method_31_code 63 = .ok (.aload_n 0, 1) := by decide +kernel
theorem d_RM_feed_64 : decode prog_13_method_31_code 64 = .ok (.getfield 207, 3) := by decide +kernel
theorem d_RM_feed_67 : decode prog_13_method_31_code 67 = .ok (.ireturn, 1) := by decide +kernel
def f_RM_feed (k0 : Nat) (x1 : Int32) (σ : Mem) : Option (Int32 × Mem) :=
  lt (mput σ k0 1 (if (f_RM_isIn x1 (0 : Int32) (255 : Int32) σ) = 0 then (1 : Int32) else (if (σ k0 19) = (6000 : Int32) then (2 : Int32) else (0 : Int32)))) fun σ5 =>
  if (σ5 k0 1) ≤ 0 then
  if inb (σ5 k0 19) (wln (wtg k0 18)) = true then
  lt (mput σ5 (wtg k0 18) (σ5 k0 19).toNatClampNeg x1) fun σ8 =>
  lt (mput σ8 k0 19 ((σ8 k0 19) + (1 : Int32))) fun σ9 =>
  some ((σ9 k0 19), σ9)
  else none
  else
  some ((0 : Int32), σ5)
set_option maxHeartbeats 4000000 in
set_option maxRecDepth 100000 in
theorem w_RM_feed {F : Fx} (C : Ctx F prog_13_method_31_code 2 "LineFramesModel" (some .int) 1 22) {k0 : Nat} (h0k : Is k0 11) (x1 : Int32) (σ : Mem) : J F 2 (cvO cvIM) (f_RM_feed k0 x1 σ) σ 0 [(0, .ref (fad F k0)), (1, .int x1)] [] := by
  unfold f_RM_feed
  refine j_aload_n C d_RM_feed_0 0 rfl ?_
  refine j_iload_n C d_RM_feed_1 1 rfl ?_
  refine j_iconst (v := (0 : Int32)) C d_RM_feed_2 (by decide) ?_
  refine j_sipush (v := (255 : Int32)) C d_RM_feed_3 (by decide) ?_
  refine j_callSi C ms_RM_93 [.int x1, .int (0 : Int32), .int (255 : Int32)] [.ref (fad F k0)] (c_RM_isIn x1 (0 : Int32) (255 : Int32) σ) rfl rfl (by decide) (Nat.le_of_ble_eq_true rfl) d_RM_feed_6 ?_
  refine d_if_ne (a := (1 : Int32)) (b := (if (σ k0 19) = (6000 : Int32) then (2 : Int32) else (0 : Int32))) (jp := 31) (tgt := 16) C d_RM_feed_9 (by decide) (fun c1 k2 => ?_) (fun c1 k2 => ?_) ?_
  · refine j_aload_n C d_RM_feed_16 0 rfl ?_
    refine j_getI C h0k fl_RM_207 rfl d_RM_feed_17 ?_
    refine j_sipush (v := (6000 : Int32)) C d_RM_feed_20 (by decide) ?_
    refine d_icmp_ne (a := (2 : Int32)) (b := (0 : Int32)) (jp := 31) (tgt := 30) C d_RM_feed_23 (by decide) (fun c3 k4 => ?_) (fun c3 k4 => ?_) ?_
    · refine j_iconst (v := (0 : Int32)) C d_RM_feed_30 (by decide) ?_
      exact k4
    · refine j_iconst (v := (2 : Int32)) C d_RM_feed_26 (by decide) ?_
      refine j_goto (tgt := 31) C d_RM_feed_27 (by decide) ?_
      exact k4
    exact k2
  · refine j_iconst (v := (1 : Int32)) C d_RM_feed_12 (by decide) ?_
    refine j_goto (tgt := 31) C d_RM_feed_13 (by decide) ?_
    exact k2
  refine j_put C h0k fl_RM_90 fw_11_1 rfl rfl rfl d_RM_feed_31 (fun σ5 => ?_)
  refine j_aload_n C d_RM_feed_34 0 rfl ?_
  refine j_getI C h0k fl_RM_90 rfl d_RM_feed_35 ?_
  refine j_if_le (tgt := 43) C d_RM_feed_38 (by decide) (fun c6 => ?_) (fun c6 => ?_)
  · refine j_aload_n C d_RM_feed_43 0 rfl ?_
    refine j_getR C h0k fl_RM_32 rfl d_RM_feed_44 ?_
    refine j_aload_n C d_RM_feed_47 0 rfl ?_
    refine j_getI C h0k fl_RM_207 rfl d_RM_feed_48 ?_
    refine j_iload_n C d_RM_feed_51 1 rfl ?_
    refine j_need rfl (fun g7 => ?_)
    refine j_iast C (tg_11_18 _ h0k) (inb_in g7) d_RM_feed_52 (fun σ8 => ?_)
    refine j_aload_n C d_RM_feed_53 0 rfl ?_
    refine j_dup C d_RM_feed_54 rfl ?_
    refine j_getI C h0k fl_RM_207 rfl d_RM_feed_55 ?_
    refine j_iconst (v := (1 : Int32)) C d_RM_feed_58 (by decide) ?_
    refine j_iadd C d_RM_feed_59 ?_
    refine j_put C h0k fl_RM_207 fw_11_19 rfl rfl rfl d_RM_feed_60 (fun σ9 => ?_)
    refine j_aload_n C d_RM_feed_63 0 rfl ?_
    refine j_getI C h0k fl_RM_207 rfl d_RM_feed_64 ?_
    exact j_ireti C (fun ρ h => leaf_eq h) d_RM_feed_67
  · refine j_iconst (v := (0 : Int32)) C d_RM_feed_41 (by decide) ?_
    exact j_ireti C (fun ρ h => leaf_eq h) d_RM_feed_42
theorem c_RM_feed {l : Launch} {D : va_G} {G : GC} {ad : Nat → Nat} {k0 : Nat} (h0k : Is k0 11) (x1 : Int32) (σ : Mem) {q : Int32 × Mem} (hq : f_RM_feed k0 x1 σ = some q) : Ctr l D G ad ⟨"LineFramesModel", "feed", "(I)I"⟩ prog_13_method_31_code 2 (some .int) 1 22 [.ref (ad k0), .int x1] σ (.inl (some (.int q.1)), q.2) := ctr_J (cv := (cvO cvIM)) (E := f_RM_feed k0 x1 σ) (by decide +kernel) (Nat.le_of_ble_eq_true rfl) (by rw [hq]; rfl) (fun F h C => by subst h; exact w_RM_feed C h0k x1 σ)
/-! LineFramesModel pass (II)I -/
theorem d_RM_pass_0 : decode prog_13_method_32_code 0 = .ok (.iload_n 2, 1) := by decide +kernel
theorem d_RM_pass_1 : decode prog_13_method_32_code 1 = .ok (.aload_n 0, 1) := by decide +kernel
theorem d_RM_pass_2 : decode prog_13_method_32_code 2 = .ok (.getfield 146, 3) := by decide +kernel
theorem d_RM_pass_5 : decode prog_13_method_32_code 5 = .ok (.iload_n 1, 1) := by decide +kernel
theorem d_RM_pass_6 : decode prog_13_method_32_code 6 = .ok (.isub, 1) := by decide +kernel
theorem d_RM_pass_7 : decode prog_13_method_32_code 7 = .ok (.if_icmp .ge 7, 3) := by decide +kernel
theorem d_RM_pass_10 : decode prog_13_method_32_code 10 = .ok (.iload_n 2, 1) := by decide +kernel
theorem d_RM_pass_11 : decode prog_13_method_32_code 11 = .ok (.goto 9, 3) := by decide +kernel
theorem d_RM_pass_14 : decode prog_13_method_32_code 14 = .ok (.aload_n 0, 1) := by decide +kernel
theorem d_RM_pass_15 : decode prog_13_method_32_code 15 = .ok (.getfield 146, 3) := by decide +kernel
theorem d_RM_pass_18 : decode prog_13_method_32_code 18 = .ok (.iload_n 1, 1) := by decide +kernel
theorem d_RM_pass_19 : decode prog_13_method_32_code 19 = .ok (.isub, 1) := by decide +kernel
theorem d_RM_pass_20 : decode prog_13_method_32_code 20 = .ok (.istore_n 3, 1) := by decide +kernel
theorem d_RM_pass_21 : decode prog_13_method_32_code 21 = .ok (.aload_n 0, 1) := by decide +kernel
theorem d_RM_pass_22 : decode prog_13_method_32_code 22 = .ok (.iload_n 1, 1) := by decide +kernel
theorem d_RM_pass_23 : decode prog_13_method_32_code 23 = .ok (.iconst 0, 1) := by decide +kernel
theorem d_RM_pass_24 : decode prog_13_method_32_code 24 = .ok (.aload_n 0, 1) := by decide +kernel
theorem d_RM_pass_25 : decode prog_13_method_32_code 25 = .ok (.getfield 146, 3) := by decide +kernel
theorem d_RM_pass_28 : decode prog_13_method_32_code 28 = .ok (.iconst 1, 1) := by decide +kernel
theorem d_RM_pass_29 : decode prog_13_method_32_code 29 = .ok (.isub, 1) := by decide +kernel
theorem d_RM_pass_30 : decode prog_13_method_32_code 30 = .ok (.invokestatic 93, 3) := by decide +kernel
theorem d_RM_pass_33 : decode prog_13_method_32_code 33 = .ok (.ifCond .ne 7, 3) := by decide +kernel
theorem d_RM_pass_36 : decode prog_13_method_32_code 36 = .ok (.iconst 1, 1) := by decide +kernel
theorem d_RM_pass_37 : decode prog_13_method_32_code 37 = .ok (.goto 28, 3) := by decide +kernel
theorem d_RM_pass_40 : decode prog_13_method_32_code 40 = .ok (.iload_n 2, 1) := by decide +kernel
theorem d_RM_pass_41 : decode prog_13_method_32_code 41 = .ok (.ifCond .ge 7, 3) := by decide +kernel
theorem d_RM_pass_44 : decode prog_13_method_32_code 44 = .ok (.iconst 2, 1) := by decide +kernel
theorem d_RM_pass_45 : decode prog_13_method_32_code 45 = .ok (.goto 20, 3) := by decide +kernel
theorem d_RM_pass_48 : decode prog_13_method_32_code 48 = .ok (.aload_n 0, 1) := by decide +kernel
theorem d_RM_pass_49 : decode prog_13_method_32_code 49 = .ok (.getfield 207, 3) := by decide +kernel
theorem d_RM_pass_52 : decode prog_13_method_32_code 52 = .ok (.iload_n 3, 1) := by decide +kernel
theorem d_RM_pass_53 : decode prog_13_method_32_code 53 = .ok (.iadd, 1) := by decide +kernel
theorem d_RM_pass_54 : decode prog_13_method_32_code 54 = .ok (.sipush 6000, 3) := by decide +kernel
theorem d_RM_pass_57 : decode prog_13_method_32_code 57 = .ok (.if_icmp .le 7, 3) := by decide +kernel
theorem d_RM_pass_60 : decode prog_13_method_32_code 60 = .ok (.iconst 3, 1) := by decide +kernel
theorem d_RM_pass_61 : decode prog_13_method_32_code 61 = .ok (.goto 4, 3) := by decide +kernel
theorem d_RM_pass_64 : decode prog_13_method_32_code 64 = .ok (.iconst 0, 1) := by decide +kernel
theorem d_RM_pass_65 : decode prog_13_method_32_code 65 = .ok (.putfield 90, 3) := by decide +kernel
theorem d_RM_pass_68 : decode prog_13_method_32_code 68 = .ok (.aload_n 0, 1) := by decide +kernel
theorem d_RM_pass_69 : decode prog_13_method_32_code 69 = .ok (.getfield 90, 3) := by decide +kernel
theorem d_RM_pass_72 : decode prog_13_method_32_code 72 = .ok (.ifCond .le 5, 3) := by decide +kernel
theorem d_RM_pass_75 : decode prog_13_method_32_code 75 = .ok (.iconst 0, 1) := by decide +kernel
theorem d_RM_pass_76 : decode prog_13_method_32_code 76 = .ok (.ireturn, 1) := by decide +kernel
theorem d_RM_pass_77 : decode prog_13_method_32_code 77 = .ok (.iconst 0, 1) := by decide +kernel
theorem d_RM_pass_78 : decode prog_13_method_32_code 78 = .ok (.istore 4, 2) := by decide +kernel
theorem d_RM_pass_80 : decode prog_13_method_32_code 80 = .ok (.iload 4, 2) := by decide +kernel
theorem d_RM_pass_82 : decode prog_13_method_32_code 82 = .ok (.iload_n 3, 1) := by decide +kernel
theorem d_RM_pass_83 : decode prog_13_method_32_code 83 = .ok (.if_icmp .ge 37, 3) := by decide +kernel
theorem d_RM_pass_86 : decode prog_13_method_32_code 86 = .ok (.aload_n 0, 1) := by decide +kernel
theorem d_RM_pass_87 : decode prog_13_method_32_code 87 = .ok (.getfield 32, 3) := by decide +kernel
theorem d_RM_pass_90 : decode prog_13_method_32_code 90 = .ok (.aload_n 0, 1) := by decide +kernel
theorem d_RM_pass_91 : decode prog_13_method_32_code 91 = .ok (.getfield 207, 3) := by decide +kernel
theorem d_RM_pass_94 : decode prog_13_method_32_code 94 = .ok (.aload_n 0, 1) := by decide +kernel
theorem d_RM_pass_95 : decode prog_13_method_32_code 95 = .ok (.getfield 29, 3) := by decide +kernel
theorem d_RM_pass_98 : decode prog_13_method_32_code 98 = .ok (.iload_n 1, 1) := by decide +kernel
theorem d_RM_pass_99 : decode prog_13_method_32_code 99 = .ok (.iload 4, 2) := by decide +kernel
theorem d_RM_pass_101 : decode prog_13_method_32_code 101 = .ok (.iadd, 1) := by decide +kernel
theorem d_RM_pass_102 : decode prog_13_method_32_code 102 = .ok (.iaload, 1) := by decide +kernel
theorem d_RM_pass_103 : decode prog_13_method_32_code 103 = .ok (.iastore, 1) := by decide +kernel
theorem d_RM_pass_104 : decode prog_13_method_32_code 104 = .ok (.aload_n 0, 1) := by decide +kernel
theorem d_RM_pass_105 : decode prog_13_method_32_code 105 = .ok (.dup, 1) := by decide +kernel
theorem d_RM_pass_106 : decode prog_13_method_32_code 106 = .ok (.getfield 207, 3) := by decide +kernel
theorem d_RM_pass_109 : decode prog_13_method_32_code 109 = .ok (.iconst 1, 1) := by decide +kernel
theorem d_RM_pass_110 : decode prog_13_method_32_code 110 = .ok (.iadd, 1) := by decide +kernel
theorem d_RM_pass_111 : decode prog_13_method_32_code 111 = .ok (.putfield 207, 3) := by decide +kernel
theorem d_RM_pass_114 : decode prog_13_method_32_code 114 = .ok (.iinc 4 1, 3) := by decide +kernel
theorem d_RM_pass_117 : decode prog_13_method_32_code 117 = .ok (.goto (-37), 3) := by decide +kernel
theorem d_RM_pass_120 : decode prog_13_method_32_code 120 = .ok (.iload_n 3, 1) := by decide +kernel
theorem d_RM_pass_121 : decode prog_13_method_32_code 121 = .ok (.ireturn, 1) := by decide +kernel
def L_RM_pass_80 (r0 : Nat) (b1 : Int32) (b2 : Int32) (b3 : Int32) : Nat → Int32 → Mem →  Option (Int32 × Mem)
  | 0, _, _ => none
  | n + 1, a4, σ =>
  if b3 ≤ a4 then
  some (a4, σ)
  else
  if inb (b1 + a4) (wln (wtg r0 16)) = true then
  if inb (σ r0 19) (wln (wtg r0 18)) = true then
  lt (mput σ (wtg r0 18) (σ r0 19).toNatClampNeg (σ (wtg r0 16) (b1 + a4).toNatClampNeg)) fun σ15 =>
  lt (mput σ15 r0 19 ((σ15 r0 19) + (1 : Int32))) fun σ16 =>
  L_RM_pass_80 r0 b1 b2 b3 n (a4 + (1 : Int32)) σ16
  else none
  else none
def f_RM_pass (k0 : Nat) (x1 : Int32) (x2 : Int32) (σ : Mem) : Option (Int32 × Mem) :=
  lt (if ((σ k0 17) - x1) ≤ x2 then ((σ k0 17) - x1) else x2) fun v3 =>
  lt (mput σ k0 1 (if (f_RM_isIn x1 (0 : Int32) ((σ k0 17) - (1 : Int32)) σ) = 0 then (1 : Int32) else (if 0 ≤ x2 then (if ((σ k0 19) + v3) ≤ (6000 : Int32) then (0 : Int32) else (3 : Int32)) else (2 : Int32)))) fun σ10 =>
  if (σ10 k0 1) ≤ 0 then
  (L_RM_pass_80 k0 x1 x2 v3 9999 (0 : Int32) σ10).bind fun q17 =>
  some (v3, q17.2)
  else
  some ((0 : Int32), σ10)
set_option maxHeartbeats 4000000 in
set_option maxRecDepth 100000 in
theorem wL_RM_pass_80 {F : Fx} (C : Ctx F prog_13_method_32_code 5 "LineFramesModel" (some .int) 1 22) {cv : Option (Int32 × Mem) → Option Rs} (h0 : cv none = none) (r0 : Nat) (hr0 : Is r0 11) (b1 : Int32) (b2 : Int32) (b3 : Int32) (hex : ∀ q : Int32 × Mem, J F 5 cv (some q) q.2 120 [(0, .ref (fad F r0)), (1, .int b1), (2, .int b2), (3, .int b3), (4, .int q.1)] []) : ∀ (n : Nat) (a4 : Int32) (σ : Mem), J F 5 cv (L_RM_pass_80 r0 b1 b2 b3 n a4 σ) σ 80 [(0, .ref (fad F r0)), (1, .int b1), (2, .int b2), (3, .int b3), (4, .int a4)] [] := by
  intro n
  induction n with
  | zero => intro a4 σ hE; rw [L_RM_pass_80, h0] at hE; cases hE
  | succ n ih =>
    intro a4 σ
    rw [L_RM_pass_80]
    refine j_iload C d_RM_pass_80 4 rfl ?_
    refine j_iload_n C d_RM_pass_82 3 rfl ?_
    refine j_icmp_ge (tgt := 120) C d_RM_pass_83 (by decide) (fun c12 => ?_) (fun c12 => ?_)
    · exact hex (a4, σ)
    · refine j_aload_n C d_RM_pass_86 0 rfl ?_
      refine j_getR C hr0 fl_RM_32 rfl d_RM_pass_87 ?_
      refine j_aload_n C d_RM_pass_90 0 rfl ?_
      refine j_getI C hr0 fl_RM_207 rfl d_RM_pass_91 ?_
      refine j_aload_n C d_RM_pass_94 0 rfl ?_
      refine j_getR C hr0 fl_RM_29 rfl d_RM_pass_95 ?_
      refine j_iload_n C d_RM_pass_98 1 rfl ?_
      refine j_iload C d_RM_pass_99 4 rfl ?_
      refine j_iadd C d_RM_pass_101 ?_
      refine j_need (by exact h0) (fun g13 => ?_)
      refine j_iald C (tg_11_16 _ hr0) (inb_in g13) d_RM_pass_102 ?_
      refine j_need (by exact h0) (fun g14 => ?_)
      refine j_iast C (tg_11_18 _ hr0) (inb_in g14) d_RM_pass_103 (fun σ15 => ?_)
      refine j_aload_n C d_RM_pass_104 0 rfl ?_
      refine j_dup C d_RM_pass_105 rfl ?_
      refine j_getI C hr0 fl_RM_207 rfl d_RM_pass_106 ?_
      refine j_iconst (v := (1 : Int32)) C d_RM_pass_109 (by decide) ?_
      refine j_iadd C d_RM_pass_110 ?_
      refine j_put C hr0 fl_RM_207 fw_11_19 rfl rfl rfl d_RM_pass_111 (fun σ16 => ?_)
      refine j_iinc (v := (a4 + (1 : Int32))) (lv9 := [(0, .ref (fad F r0)), (1, .int b1), (2, .int b2), (3, .int b3), (4, .int (a4 + (1 : Int32)))]) C d_RM_pass_114 4 rfl rfl rfl rfl (by decide) ?_
      refine j_goto (tgt := 80) C d_RM_pass_117 (by decide) ?_
      exact ih (a4 + (1 : Int32)) σ16
set_option maxHeartbeats 4000000 in
set_option maxRecDepth 100000 in
theorem w_RM_pass {F : Fx} (C : Ctx F prog_13_method_32_code 5 "LineFramesModel" (some .int) 1 22) {k0 : Nat} (h0k : Is k0 11) (x1 : Int32) (x2 : Int32) (σ : Mem) : J F 5 (cvO cvIM) (f_RM_pass k0 x1 x2 σ) σ 0 [(0, .ref (fad F k0)), (1, .int x1), (2, .int x2)] [] := by
  unfold f_RM_pass
  refine j_iload_n C d_RM_pass_0 2 rfl ?_
  refine j_aload_n C d_RM_pass_1 0 rfl ?_
  refine j_getI C h0k fl_RM_146 rfl d_RM_pass_2 ?_
  refine j_iload_n C d_RM_pass_5 1 rfl ?_
  refine j_isub C d_RM_pass_6 ?_
  refine d_icmp_ge (a := ((σ k0 17) - x1)) (b := x2) (jp := 20) (tgt := 14) C d_RM_pass_7 (by decide) (fun c1 k2 => ?_) (fun c1 k2 => ?_) ?_
  · refine j_aload_n C d_RM_pass_14 0 rfl ?_
    refine j_getI C h0k fl_RM_146 rfl d_RM_pass_15 ?_
    refine j_iload_n C d_RM_pass_18 1 rfl ?_
    refine j_isub C d_RM_pass_19 ?_
    exact k2
  · refine j_iload_n C d_RM_pass_10 2 rfl ?_
    refine j_goto (tgt := 20) C d_RM_pass_11 (by decide) ?_
    exact k2
  refine j_nm (fun v3 v3_e => ?_)
  refine j_istore_n (lv9 := [(0, .ref (fad F k0)), (1, .int x1), (2, .int x2), (3, .int v3)]) C d_RM_pass_20 rfl rfl (by decide) ?_
  refine j_aload_n C d_RM_pass_21 0 rfl ?_
  refine j_iload_n C d_RM_pass_22 1 rfl ?_
  refine j_iconst (v := (0 : Int32)) C d_RM_pass_23 (by decide) ?_
  refine j_aload_n C d_RM_pass_24 0 rfl ?_
  refine j_getI C h0k fl_RM_146 rfl d_RM_pass_25 ?_
  refine j_iconst (v := (1 : Int32)) C d_RM_pass_28 (by decide) ?_
  refine j_isub C d_RM_pass_29 ?_
  refine j_callSi C ms_RM_93 [.int x1, .int (0 : Int32), .int ((σ k0 17) - (1 : Int32))] [.ref (fad F k0)] (c_RM_isIn x1 (0 : Int32) ((σ k0 17) - (1 : Int32)) σ) rfl rfl (by decide) (Nat.le_of_ble_eq_true rfl) d_RM_pass_30 ?_
  refine d_if_ne (a := (1 : Int32)) (b := (if 0 ≤ x2 then (if ((σ k0 19) + v3) ≤ (6000 : Int32) then (0 : Int32) else (3 : Int32)) else (2 : Int32))) (jp := 65) (tgt := 40) C d_RM_pass_33 (by decide) (fun c4 k5 => ?_) (fun c4 k5 => ?_) ?_
  · refine j_iload_n C d_RM_pass_40 2 rfl ?_
    refine d_if_ge (a := (if ((σ k0 19) + v3) ≤ (6000 : Int32) then (0 : Int32) else (3 : Int32))) (b := (2 : Int32)) (jp := 65) (tgt := 48) C d_RM_pass_41 (by decide) (fun c6 k7 => ?_) (fun c6 k7 => ?_) ?_
    · refine j_aload_n C d_RM_pass_48 0 rfl ?_
      refine j_getI C h0k fl_RM_207 rfl d_RM_pass_49 ?_
      refine j_iload_n C d_RM_pass_52 3 rfl ?_
      refine j_iadd C d_RM_pass_53 ?_
      refine j_sipush (v := (6000 : Int32)) C d_RM_pass_54 (by decide) ?_
      refine d_icmp_le (a := (0 : Int32)) (b := (3 : Int32)) (jp := 65) (tgt := 64) C d_RM_pass_57 (by decide) (fun c8 k9 => ?_) (fun c8 k9 => ?_) ?_
      · refine j_iconst (v := (0 : Int32)) C d_RM_pass_64 (by decide) ?_
        exact k9
      · refine j_iconst (v := (3 : Int32)) C d_RM_pass_60 (by decide) ?_
        refine j_goto (tgt := 65) C d_RM_pass_61 (by decide) ?_
        exact k9
      exact k7
    · refine j_iconst (v := (2 : Int32)) C d_RM_pass_44 (by decide) ?_
      refine j_goto (tgt := 65) C d_RM_pass_45 (by decide) ?_
      exact k7
    exact k5
  · refine j_iconst (v := (1 : Int32)) C d_RM_pass_36 (by decide) ?_
    refine j_goto (tgt := 65) C d_RM_pass_37 (by decide) ?_
    exact k5
  refine j_put C h0k fl_RM_90 fw_11_1 rfl rfl rfl d_RM_pass_65 (fun σ10 => ?_)
  refine j_aload_n C d_RM_pass_68 0 rfl ?_
  refine j_getI C h0k fl_RM_90 rfl d_RM_pass_69 ?_
  refine j_if_le (tgt := 77) C d_RM_pass_72 (by decide) (fun c11 => ?_) (fun c11 => ?_)
  · refine j_iconst (v := (0 : Int32)) C d_RM_pass_77 (by decide) ?_
    refine j_istore (lv9 := [(0, .ref (fad F k0)), (1, .int x1), (2, .int x2), (3, .int v3), (4, .int (0 : Int32))]) C d_RM_pass_78 rfl rfl (by decide) ?_
    refine j_loop (wL_RM_pass_80 C rfl k0 h0k x1 x2 v3 (fun q17 => j_some ?_) 9999 (0 : Int32) σ10)
    refine j_iload_n C d_RM_pass_120 3 rfl ?_
    exact j_ireti C (fun ρ h => leaf_eq h) d_RM_pass_121
  · refine j_iconst (v := (0 : Int32)) C d_RM_pass_75 (by decide) ?_
    exact j_ireti C (fun ρ h => leaf_eq h) d_RM_pass_76
theorem c_RM_pass {l : Launch} {D : va_G} {G : GC} {ad : Nat → Nat} {k0 : Nat} (h0k : Is k0 11) (x1 : Int32) (x2 : Int32) (σ : Mem) {q : Int32 × Mem} (hq : f_RM_pass k0 x1 x2 σ = some q) : Ctr l D G ad ⟨"LineFramesModel", "pass", "(II)I"⟩ prog_13_method_32_code 5 (some .int) 1 22 [.ref (ad k0), .int x1, .int x2] σ (.inl (some (.int q.1)), q.2) := ctr_J (cv := (cvO cvIM)) (E := f_RM_pass k0 x1 x2 σ) (by decide +kernel) (Nat.le_of_ble_eq_true rfl) (by rw [hq]; rfl) (fun F h C => by subst h; exact w_RM_pass C h0k x1 x2 σ)
