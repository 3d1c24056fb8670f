/-! LineFramesModel isScan ()Z -/
theorem d_RM_isScan_0 : decode prog_13_method_43_code 0 = .ok (.aload_n 0, 1) := by decide +kernel
theorem d_RM_isScan_1 : decode prog_13_method_43_code 1 = .ok (.aload_n 0, 1) := by decide +kernel
theorem d_RM_isScan_2 : decode prog_13_method_43_code 2 = .ok (.getfield 216, 3) := by decide +kernel
theorem d_RM_isScan_5 : decode prog_13_method_43_code 5 = .ok (.iconst 2, 1) := by decide +kernel
theorem d_RM_isScan_6 : decode prog_13_method_43_code 6 = .ok (.iadd, 1) := by decide +kernel
theorem d_RM_isScan_7 : decode prog_13_method_43_code 7 = .ok (.invokevirtual 230, 3) := by decide +kernel
theorem d_RM_isScan_10 : decode prog_13_method_43_code 10 = .ok (.istore_n 1, 1) := by decide +kernel
theorem d_RM_isScan_11 : decode prog_13_method_43_code 11 = .ok (.iload_n 1, 1) := by decide +kernel
theorem d_RM_isScan_12 : decode prog_13_method_43_code 12 = .ok (.iconst 3, 1) := by decide +kernel
theorem d_RM_isScan_13 : decode prog_13_method_43_code 13 = .ok (.if_icmp .lt 23, 3) := by decide +kernel
theorem d_RM_isScan_16 : decode prog_13_method_43_code 16 = .ok (.iload_n 1, 1) := by decide +kernel
theorem d_RM_isScan_17 : decode prog_13_method_43_code 17 = .ok (.bipush 6, 2) := by decide +kernel
theorem d_RM_isScan_19 : decode prog_13_method_43_code 19 = .ok (.iconst 2, 1) := by decide +kernel
theorem d_RM_isScan_20 : decode prog_13_method_43_code 20 = .ok (.aload_n 0, 1) := by decide +kernel
theorem d_RM_isScan_21 : decode prog_13_method_43_code 21 = .ok (.getfield 32, 3) := by decide +kernel
theorem d_RM_isScan_24 : decode prog_13_method_43_code 24 = .ok (.aload_n 0, 1) := by decide +kernel
theorem d_RM_isScan_25 : decode prog_13_method_43_code 25 = .ok (.getfield 216, 3) := by decide +kernel
theorem d_RM_isScan_28 : decode prog_13_method_43_code 28 = .ok (.iconst 4, 1) := by decide +kernel
theorem d_RM_isScan_29 : decode prog_13_method_43_code 29 = .ok (.iadd, 1) := by decide +kernel
theorem d_RM_isScan_30 : decode prog_13_method_43_code 30 = .ok (.iaload, 1) := by decide +kernel
theorem d_RM_isScan_31 : decode prog_13_method_43_code 31 = .ok (.imul, 1) := by decide +kernel
theorem d_RM_isScan_32 : decode prog_13_method_43_code 32 = .ok (.iadd, 1) := by decide +kernel
theorem d_RM_isScan_33 : decode prog_13_method_43_code 33 = .ok (.if_icmp .eq 13, 3) := by decide +kernel
theorem d_RM_isScan_36 : decode prog_13_method_43_code 36 = .ok (.aload_n 0, 1) := by decide +kernel
theorem d_RM_isScan_37 : decode prog_13_method_43_code 37 = .ok (.iconst 3, 1) := by decide +kernel
theorem d_RM_isScan_38 : decode prog_13_method_43_code 38 = .ok (.aload_n 0, 1) := by decide +kernel
theorem d_RM_isScan_39 : decode prog_13_method_43_code 39 = .ok (.getfield 216, 3) := by decide +kernel
theorem d_RM_isScan_42 : decode prog_13_method_43_code 42 = .ok (.invokevirtual 219, 3) := by decide +kernel
theorem d_RM_isScan_45 : decode prog_13_method_43_code 45 = .ok (.ireturn, 1) := by decide +kernel
theorem d_RM_isScan_46 : decode prog_13_method_43_code 46 = .ok (.aload_n 0, 1) := by decide +kernel
theorem d_RM_isScan_47 : decode prog_13_method_43_code 47 = .ok (.getfield 32, 3) := by decide +kernel
theorem d_RM_isScan_50 : decode prog_13_method_43_code 50 = .ok (.aload_n 0, 1) := by decide +kernel
theorem d_RM_isScan_51 : decode prog_13_method_43_code 51 = .ok (.getfield 216, 3) := by decide +kernel
theorem d_RM_isScan_54 : decode prog_13_method_43_code 54 = .ok (.iconst 4, 1) := by decide +kernel
theorem d_RM_isScan_55 : decode prog_13_method_43_code 55 = .ok (.iadd, 1) := by decide +kernel
theorem d_RM_isScan_56 : decode prog_13_method_43_code 56 = .ok (.iaload, 1) := by decide +kernel
theorem d_RM_isScan_57 : decode prog_13_method_43_code 57 = .ok (.istore_n 2, 1) := by decide +kernel
theorem d_RM_isScan_58 : decode prog_13_method_43_code 58 = .ok (.iload_n 2, 1) := by decide +kernel
theorem d_RM_isScan_59 : decode prog_13_method_43_code 59 = .ok (.iconst 1, 1) := by decide +kernel
theorem d_RM_isScan_60 : decode prog_13_method_43_code 60 = .ok (.if_icmp .eq 21, 3) := by decide +kernel
theorem d_RM_isScan_63 : decode prog_13_method_43_code 63 = .ok (.iload_n 2, 1) := by decide +kernel
theorem d_RM_isScan_64 : decode prog_13_method_43_code 64 = .ok (.aload_n 0, 1) := by decide +kernel
theorem d_RM_isScan_65 : decode prog_13_method_43_code 65 = .ok (.getfield 227, 3) := by decide +kernel
theorem d_RM_isScan_68 : decode prog_13_method_43_code 68 = .ok (.if_icmp .eq 13, 3) := by decide +kernel
theorem d_RM_isScan_71 : decode prog_13_method_43_code 71 = .ok (.aload_n 0, 1) := by decide +kernel
theorem d_RM_isScan_72 : decode prog_13_method_43_code 72 = .ok (.iconst 4, 1) := by decide +kernel
theorem d_RM_isScan_73 : decode prog_13_method_43_code 73 = .ok (.aload_n 0, 1) := by decide +kernel
theorem d_RM_isScan_74 : decode prog_13_method_43_code 74 = .ok (.getfield 216, 3) := by decide +kernel
theorem d_RM_isScan_77 : decode prog_13_method_43_code 77 = .ok (.invokevirtual 219, 3) := by decide +kernel
theorem d_RM_isScan_80 : decode prog_13_method_43_code 80 = .ok (.ireturn, 1) := by decide +kernel
theorem d_RM_isScan_81 : decode prog_13_method_43_code 81 = .ok (.iconst 0, 1) := by decide +kernel
theorem d_RM_isScan_82 : decode prog_13_method_43_code 82 = .ok (.istore_n 3, 1) := by decide +kernel
theorem d_RM_isScan_83 : decode prog_13_method_43_code 83 = .ok (.iload_n 3, 1) := by decide +kernel
theorem d_RM_isScan_84 : decode prog_13_method_43_code 84 = .ok (.iload_n 2, 1) := by decide +kernel
theorem d_RM_isScan_85 : decode prog_13_method_43_code 85 = .ok (.if_icmp .ge 147, 3) := by decide +kernel
theorem d_RM_isScan_88 : decode prog_13_method_43_code 88 = .ok (.aload_n 0, 1) := by decide +kernel
theorem d_RM_isScan_89 : decode prog_13_method_43_code 89 = .ok (.getfield 32, 3) := by decide +kernel
theorem d_RM_isScan_92 : decode prog_13_method_43_code 92 = .ok (.aload_n 0, 1) := by decide +kernel
theorem d_RM_isScan_93 : decode prog_13_method_43_code 93 = .ok (.getfield 216, 3) := by decide +kernel
theorem d_RM_isScan_96 : decode prog_13_method_43_code 96 = .ok (.iconst 5, 1) := by decide +kernel
theorem d_RM_isScan_97 : decode prog_13_method_43_code 97 = .ok (.iadd, 1) := by decide +kernel
theorem d_RM_isScan_98 : decode prog_13_method_43_code 98 = .ok (.iconst 2, 1) := by decide +kernel
theorem d_RM_isScan_99 : decode prog_13_method_43_code 99 = .ok (.iload_n 3, 1) := by decide +kernel
theorem d_RM_isScan_100 : decode prog_13_method_43_code 100 = .ok (.imul, 1) := by decide +kernel
theorem d_RM_isScan_101 : decode prog_13_method_43_code 101 = .ok (.iadd, 1) := by decide +kernel
theorem d_RM_isScan_102 : decode prog_13_method_43_code 102 = .ok (.iaload, 1) := by decide +kernel
theorem d_RM_isScan_103 : decode prog_13_method_43_code 103 = .ok (.iconst 1, 1) := by decide +kernel
theorem d_RM_isScan_104 : decode prog_13_method_43_code 104 = .ok (.isub, 1) := by decide +kernel
theorem d_RM_isScan_105 : decode prog_13_method_43_code 105 = .ok (.istore 4, 2) := by decide +kernel
theorem d_RM_isScan_107 : decode prog_13_method_43_code 107 = .ok (.aload_n 0, 1) := by decide +kernel
theorem d_RM_isScan_108 : decode prog_13_method_43_code 108 = .ok (.getfield 32, 3) := by decide +kernel
theorem d_RM_isScan_111 : decode prog_13_method_43_code 111 = .ok (.aload_n 0, 1) := by decide +kernel
theorem d_RM_isScan_112 : decode prog_13_method_43_code 112 = .ok (.getfield 216, 3) := by decide +kernel
theorem d_RM_isScan_115 : decode prog_13_method_43_code 115 = .ok (.bipush 6, 2) := by decide +kernel
theorem d_RM_isScan_117 : decode prog_13_method_43_code 117 = .ok (.iadd, 1) := by decide +kernel
theorem d_RM_isScan_118 : decode prog_13_method_43_code 118 = .ok (.iconst 2, 1) := by decide +kernel
theorem d_RM_isScan_119 : decode prog_13_method_43_code 119 = .ok (.iload_n 3, 1) := by decide +kernel
theorem d_RM_isScan_120 : decode prog_13_method_43_code 120 = .ok (.imul, 1) := by decide +kernel
theorem d_RM_isScan_121 : decode prog_13_method_43_code 121 = .ok (.iadd, 1) := by decide +kernel
theorem d_RM_isScan_122 : decode prog_13_method_43_code 122 = .ok (.iaload, 1) := by decide +kernel
theorem d_RM_isScan_123 : decode prog_13_method_43_code 123 = .ok (.istore 5, 2) := by decide +kernel
theorem d_RM_isScan_125 : decode prog_13_method_43_code 125 = .ok (.iload 4, 2) := by decide +kernel
theorem d_RM_isScan_127 : decode prog_13_method_43_code 127 = .ok (.iconst 0, 1) := by decide +kernel
theorem d_RM_isScan_128 : decode prog_13_method_43_code 128 = .ok (.aload_n 0, 1) := by decide +kernel
theorem d_RM_isScan_129 : decode prog_13_method_43_code 129 = .ok (.getfield 227, 3) := by decide +kernel
theorem d_RM_isScan_132 : decode prog_13_method_43_code 132 = .ok (.iconst 1, 1) := by decide +kernel
theorem d_RM_isScan_133 : decode prog_13_method_43_code 133 = .ok (.isub, 1) := by decide +kernel
theorem d_RM_isScan_134 : decode prog_13_method_43_code 134 = .ok (.invokestatic 93, 3) := by decide +kernel
theorem d_RM_isScan_137 : decode prog_13_method_43_code 137 = .ok (.ifCond .ne 14, 3) := by decide +kernel
theorem d_RM_isScan_140 : decode prog_13_method_43_code 140 = .ok (.aload_n 0, 1) := by decide +kernel
theorem d_RM_isScan_141 : decode prog_13_method_43_code 141 = .ok (.bipush 6, 2) := by decide +kernel
theorem d_RM_isScan_143 : decode prog_13_method_43_code 143 = .ok (.aload_n 0, 1) := by decide +kernel
theorem d_RM_isScan_144 : decode prog_13_method_43_code 144 = .ok (.getfield 216, 3) := by decide +kernel
theorem d_RM_isScan_147 : decode prog_13_method_43_code 147 = .ok (.invokevirtual 219, 3) := by decide +kernel
theorem d_RM_isScan_150 : decode prog_13_method_43_code 150 = .ok (.ireturn, 1) := by decide +kernel
theorem d_RM_isScan_151 : decode prog_13_method_43_code 151 = .ok (.iload_n 2, 1) := by decide +kernel
theorem d_RM_isScan_152 : decode prog_13_method_43_code 152 = .ok (.iconst 1, 1) := by decide +kernel
theorem d_RM_isScan_153 : decode prog_13_method_43_code 153 = .ok (.if_icmp .le 19, 3) := by decide +kernel
theorem d_RM_isScan_156 : decode prog_13_method_43_code 156 = .ok (.iload 4, 2) := by decide +kernel
theorem d_RM_isScan_158 : decode prog_13_method_43_code 158 = .ok (.iload_n 3, 1) := by decide +kernel
theorem d_RM_isScan_159 : decode prog_13_method_43_code 159 = .ok (.if_icmp .eq 13, 3) := by decide +kernel
theorem d_RM_isScan_162 : decode prog_13_method_43_code 162 = .ok (.aload_n 0, 1) := by decide +kernel
theorem d_RM_isScan_163 : decode prog_13_method_43_code 163 = .ok (.iconst 4, 1) := by decide +kernel
theorem d_RM_isScan_164 : decode prog_13_method_43_code 164 = .ok (.aload_n 0, 1) := by decide +kernel
theorem d_RM_isScan_165 : decode prog_13_method_43_code 165 = .ok (.getfield 216, 3) := by decide +kernel
theorem d_RM_isScan_168 : decode prog_13_method_43_code 168 = .ok (.invokevirtual 219, 3) := by decide +kernel
theorem d_RM_isScan_171 : decode prog_13_method_43_code 171 = .ok (.ireturn, 1) := by decide +kernel
theorem d_RM_isScan_172 : decode prog_13_method_43_code 172 = .ok (.aload_n 0, 1) := by decide +kernel
theorem d_RM_isScan_173 : decode prog_13_method_43_code 173 = .ok (.getfield 74, 3) := by decide +kernel
theorem d_RM_isScan_176 : decode prog_13_method_43_code 176 = .ok (.iload 4, 2) := by decide +kernel
theorem d_RM_isScan_178 : decode prog_13_method_43_code 178 = .ok (.baload, 1) := by decide +kernel
theorem d_RM_isScan_179 : decode prog_13_method_43_code 179 = .ok (.ifCond .eq 13, 3) := by decide +kernel
theorem d_RM_isScan_182 : decode prog_13_method_43_code 182 = .ok (.aload_n 0, 1) := by decide +kernel
theorem d_RM_isScan_183 : decode prog_13_method_43_code 183 = .ok (.iconst 5, 1) := by decide +kernel
theorem d_RM_isScan_184 : decode prog_13_method_43_code 184 = .ok (.aload_n 0, 1) := by decide +kernel
theorem d_RM_isScan_185 : decode prog_13_method_43_code 185 = .ok (.getfield 216, 3) := by decide +kernel
theorem d_RM_isScan_188 : decode prog_13_method_43_code 188 = .ok (.invokevirtual 219, 3) := by decide +kernel
theorem d_RM_isScan_191 : decode prog_13_method_43_code 191 = .ok (.ireturn, 1) := by decide +kernel
theorem d_RM_isScan_192 : decode prog_13_method_43_code 192 = .ok (.iload 5, 2) := by decide +kernel
theorem d_RM_isScan_194 : decode prog_13_method_43_code 194 = .ok (.ifCond .eq 32, 3) := by decide +kernel
theorem d_RM_isScan_197 : decode prog_13_method_43_code 197 = .ok (.iload 5, 2) := by decide +kernel
theorem d_RM_isScan_199 : decode prog_13_method_43_code 199 = .ok (.iload 4, 2) := by decide +kernel
theorem d_RM_isScan_201 : decode prog_13_method_43_code 201 = .ok (.iconst 1, 1) := by decide +kernel
theorem d_RM_isScan_202 : decode prog_13_method_43_code 202 = .ok (.iadd, 1) := by decide +kernel
theorem d_RM_isScan_203 : decode prog_13_method_43_code 203 = .ok (.if_icmp .ne 13, 3) := by decide +kernel
theorem d_RM_isScan_206 : decode prog_13_method_43_code 206 = .ok (.aload_n 0, 1) := by decide +kernel
theorem d_RM_isScan_207 : decode prog_13_method_43_code 207 = .ok (.getfield 59, 3) := by decide +kernel
theorem d_RM_isScan_210 : decode prog_13_method_43_code 210 = .ok (.iload 4, 2) := by decide +kernel
theorem d_RM_isScan_212 : decode prog_13_method_43_code 212 = .ok (.baload, 1) := by decide +kernel
theorem d_RM_isScan_213 : decode prog_13_method_43_code 213 = .ok (.ifCond .ne 13, 3) := by decide +kernel
theorem d_RM_isScan_216 : decode prog_13_method_43_code 216 = .ok (.aload_n 0, 1) := by decide +kernel
theorem d_RM_isScan_217 : decode prog_13_method_43_code 217 = .ok (.iconst 4, 1) := by decide +kernel
theorem d_RM_isScan_218 : decode prog_13_method_43_code 218 = .ok (.aload_n 0, 1) := by decide +kernel
theorem d_RM_isScan_219 : decode prog_13_method_43_code 219 = .ok (.getfield 216, 3) := by decide +kernel
theorem d_RM_isScan_222 : decode prog_13_method_43_code 222 = .ok (.invokevirtual 219, 3) := by decide +kernel
theorem d_RM_isScan_225 : decode prog_13_method_43_code 225 = .ok (.ireturn, 1) := by decide +kernel
theorem d_RM_isScan_226 : decode prog_13_method_43_code 226 = .ok (.iinc 3 1, 3) := by decide +kernel
theorem d_RM_isScan_229 : decode prog_13_method_43_code 229 = .ok (.goto (-146), 3) := by decide +kernel
theorem d_RM_isScan_232 : decode prog_13_method_43_code 232 = .ok (.aload_n 0, 1) := by decide +kernel
theorem d_RM_isScan_233 : decode prog_13_method_43_code 233 = .ok (.getfield 216, 3) := by decide +kernel
theorem d_RM_isScan_236 : decode prog_13_method_43_code 236 = .ok (.iconst 5, 1) := by decide +kernel
theorem d_RM_isScan_237 : decode prog_13_method_43_code 237 = .ok (.iadd, 1) := by decide +kernel
theorem d_RM_isScan_238 : decode prog_13_method_43_code 238 = .ok (.iconst 2, 1) := by decide +kernel
theorem d_RM_isScan_239 : decode prog_13_method_43_code 239 = .ok (.iload_n 2, 1) := by decide +kernel
theorem d_RM_isScan_240 : decode prog_13_method_43_code 240 = .ok (.imul, 1) := by decide +kernel
theorem d_RM_isScan_241 : decode prog_13_method_43_code 241 = .ok (.iadd, 1) := by decide +kernel
theorem d_RM_isScan_242 : decode prog_13_method_43_code 242 = .ok (.istore_n 3, 1) := by decide +kernel
theorem d_RM_isScan_243 : decode prog_13_method_43_code 243 = .ok (.iload_n 2, 1) := by decide +kernel
theorem d_RM_isScan_244 : decode prog_13_method_43_code 244 = .ok (.iconst 1, 1) := by decide +kernel
theorem d_RM_isScan_245 : decode prog_13_method_43_code 245 = .ok (.if_icmp .ne 22, 3) := by decide +kernel
theorem d_RM_isScan_248 : decode prog_13_method_43_code 248 = .ok (.aload_n 0, 1) := by decide +kernel
theorem d_RM_isScan_249 : decode prog_13_method_43_code 249 = .ok (.getfield 32, 3) := by decide +kernel
theorem d_RM_isScan_252 : decode prog_13_method_43_code 252 = .ok (.iload_n 3, 1) := by decide +kernel
theorem d_RM_isScan_253 : decode prog_13_method_43_code 253 = .ok (.iconst 1, 1) := by decide +kernel
theorem d_RM_isScan_254 : decode prog_13_method_43_code 254 = .ok (.iadd, 1) := by decide +kernel
theorem d_RM_isScan_255 : decode prog_13_method_43_code 255 = .ok (.iaload, 1) := by decide +kernel
theorem d_RM_isScan_256 : decode prog_13_method_43_code 256 = .ok (.ifCond .ne 7, 3) := by decide +kernel
theorem d_RM_isScan_259 : decode prog_13_method_43_code 259 = .ok (.iconst 1, 1) := by decide +kernel
theorem d_RM_isScan_260 : decode prog_13_method_43_code 260 = .ok (.goto 20, 3) := by decide +kernel
theorem d_RM_isScan_263 : decode prog_13_method_43_code 263 = .ok (.iconst 0, 1) := by decide +kernel
theorem d_RM_isScan_264 : decode prog_13_method_43_code 264 = .ok (.goto 16, 3) := by decide +kernel
theorem d_RM_isScan_267 : decode prog_13_method_43_code 267 = .ok (.aload_n 0, 1) := by decide +kernel
theorem d_RM_isScan_268 : decode prog_13_method_43_code 268 = .ok (.getfield 32, 3) := by decide +kernel
theorem d_RM_isScan_271 : decode prog_13_method_43_code 271 = .ok (.iload_n 3, 1) := by decide +kernel
theorem d_RM_isScan_272 : decode prog_13_method_43_code 272 = .ok (.iconst 1, 1) := by decide +kernel
theorem d_RM_isScan_273 : decode prog_13_method_43_code 273 = .ok (.iadd, 1) := by decide +kernel
theorem d_RM_isScan_274 : decode prog_13_method_43_code 274 = .ok (.iaload, 1) := by decide +kernel
theorem d_RM_isScan_275 : decode prog_13_method_43_code 275 = .ok (.iconst 1, 1) := by decide +kernel
theorem d_RM_isScan_276 : decode prog_13_method_43_code 276 = .ok (.iconst 2, 1) := by decide +kernel
theorem d_RM_isScan_277 : decode prog_13_method_43_code 277 = .ok (.invokestatic 93, 3) := by decide +kernel
theorem d_RM_isScan_280 : decode prog_13_method_43_code 280 = .ok (.istore 4, 2) := by decide +kernel
theorem d_RM_isScan_282 : decode prog_13_method_43_code 282 = .ok (.aload_n 0, 1) := by decide +kernel
theorem d_RM_isScan_283 : decode prog_13_method_43_code 283 = .ok (.getfield 32, 3) := by decide +kernel
theorem d_RM_isScan_286 : decode prog_13_method_43_code 286 = .ok (.iload_n 3, 1) := by decide +kernel
theorem d_RM_isScan_287 : decode prog_13_method_43_code 287 = .ok (.iaload, 1) := by decide +kernel
theorem d_RM_isScan_288 : decode prog_13_method_43_code 288 = .ok (.iconst 3, 1) := by decide +kernel
theorem d_RM_isScan_289 : decode prog_13_method_43_code 289 = .ok (.if_icmp .gt 19, 3) := by decide +kernel
theorem d_RM_isScan_292 : decode prog_13_method_43_code 292 = .ok (.iload 4, 2) := by decide +kernel
theorem d_RM_isScan_294 : decode prog_13_method_43_code 294 = .ok (.ifCond .eq 14, 3) := by decide +kernel
theorem d_RM_isScan_297 : decode prog_13_method_43_code 297 = .ok (.aload_n 0, 1) := by decide +kernel
theorem d_RM_isScan_298 : decode prog_13_method_43_code 298 = .ok (.getfield 32, 3) := by decide +kernel
theorem d_RM_isScan_301 : decode prog_13_method_43_code 301 = .ok (.iload_n 3, 1) := by decide +kernel
theorem d_RM_isScan_302 : decode prog_13_method_43_code 302 = .ok (.iconst 2, 1) := by decide +kernel
theorem d_RM_isScan_303 : decode prog_13_method_43_code 303 = .ok (.iadd, 1) := by decide +kernel
theorem d_RM_isScan_304 : decode prog_13_method_43_code 304 = .ok (.iaload, 1) := by decide +kernel
theorem d_RM_isScan_305 : decode prog_13_method_43_code 305 = .ok (.ifCond .eq 13, 3) := by decide +kernel
theorem d_RM_isScan_308 : decode prog_13_method_43_code 308 = .ok (.aload_n 0, 1) := by decide +kernel
theorem d_RM_isScan_309 : decode prog_13_method_43_code 309 = .ok (.iconst 4, 1) := by decide +kernel
theorem d_RM_isScan_310 : decode prog_13_method_43_code 310 = .ok (.aload_n 0, 1) := by decide +kernel
theorem d_RM_isScan_311 : decode prog_13_method_43_code 311 = .ok (.getfield 216, 3) := by decide +kernel
theorem d_RM_isScan_314 : decode prog_13_method_43_code 314 = .ok (.invokevirtual 219, 3) := by decide +kernel
theorem d_RM_isScan_317 : decode prog_13_method_43_code 317 = .ok (.ireturn, 1) := by decide +kernel
theorem d_RM_isScan_318 : decode prog_13_method_43_code 318 = .ok (.aload_n 0, 1) := by decide +kernel
theorem d_RM_isScan_319 : decode prog_13_method_43_code 319 = .ok (.aload_n 0, 1) := by decide +kernel
theorem d_RM_isScan_320 : decode prog_13_method_43_code 320 = .ok (.getfield 32, 3) := by decide +kernel
theorem d_RM_isScan_323 : decode prog_13_method_43_code 323 = .ok (.iload_n 3, 1) := by decide +kernel
theorem d_RM_isScan_324 : decode prog_13_method_43_code 324 = .ok (.iaload, 1) := by decide +kernel
theorem d_RM_isScan_325 : decode prog_13_method_43_code 325 = .ok (.putfield 254, 3) := by decide +kernel
theorem d_RM_isScan_328 : decode prog_13_method_43_code 328 = .ok (.aload_n 0, 1) := by decide +kernel
theorem d_RM_isScan_329 : decode prog_13_method_43_code 329 = .ok (.aload_n 0, 1) := by decide +kernel
theorem d_RM_isScan_330 : decode prog_13_method_43_code 330 = .ok (.getfield 32, 3) := by decide +kernel
theorem d_RM_isScan_333 : decode prog_13_method_43_code 333 = .ok (.iload_n 3, 1) := by decide +kernel
theorem d_RM_isScan_334 : decode prog_13_method_43_code 334 = .ok (.iconst 1, 1) := by decide +kernel
theorem d_RM_isScan_335 : decode prog_13_method_43_code 335 = .ok (.iadd, 1) := by decide +kernel
theorem d_RM_isScan_336 : decode prog_13_method_43_code 336 = .ok (.iaload, 1) := by decide +kernel
theorem d_RM_isScan_337 : decode prog_13_method_43_code 337 = .ok (.putfield 257, 3) := by decide +kernel
theorem d_RM_isScan_340 : decode prog_13_method_43_code 340 = .ok (.iconst 1, 1) := by decide +kernel
theorem d_RM_isScan_341 : decode prog_13_method_43_code 341 = .ok (.ireturn, 1) := by decide +kernel
def L_RM_isScan_83 (r0 : Nat) (b1 : Int32) (b2 : Int32) : Nat → Int32 → Mem →  Option ((Int32 × Mem) ⊕ (Int32 × Mem))
  | 0, _, _ => none
  | n + 1, a3, σ =>
  if b2 ≤ a3 then
  some (.inl (a3, σ))
  else
  if inb (((σ r0 32) + (5 : Int32)) + ((2 : Int32) * a3)) (wln (wtg r0 18)) = true then
  lt ((σ (wtg r0 18) (((σ r0 32) + (5 : Int32)) + ((2 : Int32) * a3)).toNatClampNeg) - (1 : Int32)) fun v349 =>
  if inb (((σ r0 32) + (6 : Int32)) + ((2 : Int32) * a3)) (wln (wtg r0 18)) = true then
  lt (σ (wtg r0 18) (((σ r0 32) + (6 : Int32)) + ((2 : Int32) * a3)).toNatClampNeg) fun v351 =>
  if (f_RM_isIn v349 (0 : Int32) ((σ r0 37) - (1 : Int32)) σ) = 0 then
  lt (f_RM_broken r0 (6 : Int32) (σ r0 32) σ) fun q453 =>
  some (.inr (q453.1, q453.2))
  else
  lt (fun  (σ416 : Mem) => 
  if inb v349 (wln (wtg r0 50)) = true then
  if (σ416 (wtg r0 50) v349.toNatClampNeg) = 0 then
  lt (fun  (σ426 : Mem) => 
  L_RM_isScan_83 r0 b1 b2 n (a3 + (1 : Int32)) σ426) fun K427 =>
  if v351 = 0 then
  K427 σ416
  else
  lt (
  lt (f_RM_broken r0 (4 : Int32) (σ416 r0 32) σ416) fun q445 =>
  some (.inr (q445.1, q445.2))) fun K443 =>
  if v351 = (v349 + (1 : Int32)) then
  if inb v349 (wln (wtg r0 45)) = true then
  if (σ416 (wtg r0 45) v349.toNatClampNeg) = 0 then
  K443
  else
  K427 σ416
  else none
  else
  K443
  else
  lt (f_RM_broken r0 (5 : Int32) (σ416 r0 32) σ416) fun q449 =>
  some (.inr (q449.1, q449.2))
  else none) fun K417 =>
  if b2 ≤ (1 : Int32) then
  K417 σ
  else
  if v349 = a3 then
  K417 σ
  else
  lt (f_RM_broken r0 (4 : Int32) (σ r0 32) σ) fun q452 =>
  some (.inr (q452.1, q452.2))
  else none
  else none
def f_RM_isScan (k0 : Nat) (σ : Mem) : Option (Int32 × Mem) :=
  (f_RM_wide k0 ((σ k0 32) + (2 : Int32)) σ).bind fun r2 =>
  lt (fun  (σ16 : Mem) => 
  lt (f_RM_broken k0 (3 : Int32) (σ16 k0 32) σ16) fun q19 =>
  some (q19.1, q19.2)) fun K17 =>
  if r2 < (3 : Int32) then
  K17 σ
  else
  if inb ((σ k0 32) + (4 : Int32)) (wln (wtg k0 18)) = true then
  if r2 = ((6 : Int32) + ((2 : Int32) * (σ (wtg k0 18) ((σ k0 32) + (4 : Int32)).toNatClampNeg))) then
  if inb ((σ k0 32) + (4 : Int32)) (wln (wtg k0 18)) = true then
  lt (σ (wtg k0 18) ((σ k0 32) + (4 : Int32)).toNatClampNeg) fun v24 =>
  lt (fun  (σ344 : Mem) => 
  (L_RM_isScan_83 k0 r2 v24 9999 (0 : Int32) σ344).bind fun q454_ => ecase q454_ (fun q454 =>
  lt (((q454.2 k0 32) + (5 : Int32)) + ((2 : Int32) * v24)) fun v455 =>
  lt (fun (y533 : Int32) => 
  if inb v455 (wln (wtg k0 18)) = true then
  lt (fun  (σ550 : Mem) => 
  lt (f_RM_broken k0 (4 : Int32) (σ550 k0 32) σ550) fun q553 =>
  some (q553.1, q553.2)) fun K551 =>
  if (3 : Int32) < (q454.2 (wtg k0 18) v455.toNatClampNeg) then
  K551 q454.2
  else
  if y533 = 0 then
  K551 q454.2
  else
  if inb (v455 + (2 : Int32)) (wln (wtg k0 18)) = true then
  if (q454.2 (wtg k0 18) (v455 + (2 : Int32)).toNatClampNeg) = 0 then
  if inb v455 (wln (wtg k0 18)) = true then
  lt (mput q454.2 k0 42 (q454.2 (wtg k0 18) v455.toNatClampNeg)) fun σ559 =>
  if inb (v455 + (1 : Int32)) (wln (wtg k0 18)) = true then
  lt (mput σ559 k0 43 (σ559 (wtg k0 18) (v455 + (1 : Int32)).toNatClampNeg)) fun σ561 =>
  some ((1 : Int32), σ561)
  else none
  else none
  else
  K551 q454.2
  else none
  else none) fun K534 =>
  if v24 = (1 : Int32) then
  if inb (v455 + (1 : Int32)) (wln (wtg k0 18)) = true then
  if (q454.2 (wtg k0 18) (v455 + (1 : Int32)).toNatClampNeg) = 0 then
  K534 (1 : Int32)
  else
  K534 (0 : Int32)
  else none
  else
  if inb (v455 + (1 : Int32)) (wln (wtg k0 18)) = true then
  K534 (f_RM_isIn (q454.2 (wtg k0 18) (v455 + (1 : Int32)).toNatClampNeg) (1 : Int32) (2 : Int32) q454.2)
  else none) (fun e566 => some (e566.1, e566.2))) fun K345 =>
  if v24 = (1 : Int32) then
  K345 σ
  else
  if v24 = (σ k0 37) then
  K345 σ
  else
  lt (f_RM_broken k0 (4 : Int32) (σ k0 32) σ) fun q569 =>
  some (q569.1, q569.2)
  else none
  else
  K17 σ
  else none
set_option maxHeartbeats 4000000 in
set_option maxRecDepth 100000 in
theorem wL_RM_isScan_83 {F : Fx} (C : Ctx F prog_13_method_43_code 6 "LineFramesModel" (some .boolean) 1 22) {cv : Option ((Int32 × Mem) ⊕ (Int32 × Mem)) → Option Rs} (h0 : cv none = none) (r0 : Nat) (hr0 : Is r0 11) (b1 : Int32) (b2 : Int32) (hR : ∀ (e : Int32 × Mem) (ρ : Rs), cv (some (.inr e)) = some ρ → ρ = (.inl (some (.int e.1)), e.2)) (hex : ∀ q : Int32 × Mem, J F 6 cv (some (.inl q)) q.2 232 [(0, .ref (fad F r0)), (1, .int b1), (2, .int b2), (3, .int q.1)] []) : ∀ (n : Nat) (a3 : Int32) (σ : Mem), J F 6 cv (L_RM_isScan_83 r0 b1 b2 n a3 σ) σ 83 [(0, .ref (fad F r0)), (1, .int b1), (2, .int b2), (3, .int a3)] [] := by
  intro n
  induction n with
  | zero => intro a3 σ hE; rw [L_RM_isScan_83, h0] at hE; cases hE
  | succ n ih =>
    intro a3 σ
    rw [L_RM_isScan_83]
    refine j_iload_n C d_RM_isScan_83 3 rfl ?_
    refine j_iload_n C d_RM_isScan_84 2 rfl ?_
    refine j_icmp_ge (tgt := 232) C d_RM_isScan_85 (by decide) (fun c347 => ?_) (fun c347 => ?_)
    · exact hex (a3, σ)
    · refine j_aload_n C d_RM_isScan_88 0 rfl ?_
      refine j_getR C hr0 fl_RM_32 rfl d_RM_isScan_89 ?_
      refine j_aload_n C d_RM_isScan_92 0 rfl ?_
      refine j_getI C hr0 fl_RM_216 rfl d_RM_isScan_93 ?_
      refine j_iconst (v := (5 : Int32)) C d_RM_isScan_96 (by decide) ?_
      refine j_iadd C d_RM_isScan_97 ?_
      refine j_iconst (v := (2 : Int32)) C d_RM_isScan_98 (by decide) ?_
      refine j_iload_n C d_RM_isScan_99 3 rfl ?_
      refine j_imul C d_RM_isScan_100 ?_
      refine j_iadd C d_RM_isScan_101 ?_
      refine j_need (by exact h0) (fun g348 => ?_)
      refine j_iald C (tg_11_18 _ hr0) (inb_in g348) d_RM_isScan_102 ?_
      refine j_iconst (v := (1 : Int32)) C d_RM_isScan_103 (by decide) ?_
      refine j_isub C d_RM_isScan_104 ?_
      refine j_nm (fun v349 v349_e => ?_)
      refine j_istore (lv9 := [(0, .ref (fad F r0)), (1, .int b1), (2, .int b2), (3, .int a3), (4, .int v349)]) C d_RM_isScan_105 rfl rfl (by decide) ?_
      refine j_aload_n C d_RM_isScan_107 0 rfl ?_
      refine j_getR C hr0 fl_RM_32 rfl d_RM_isScan_108 ?_
      refine j_aload_n C d_RM_isScan_111 0 rfl ?_
      refine j_getI C hr0 fl_RM_216 rfl d_RM_isScan_112 ?_
      refine j_bipush (v := (6 : Int32)) C d_RM_isScan_115 (by decide) ?_
      refine j_iadd C d_RM_isScan_117 ?_
      refine j_iconst (v := (2 : Int32)) C d_RM_isScan_118 (by decide) ?_
      refine j_iload_n C d_RM_isScan_119 3 rfl ?_
      refine j_imul C d_RM_isScan_120 ?_
      refine j_iadd C d_RM_isScan_121 ?_
      refine j_need (by exact h0) (fun g350 => ?_)
      refine j_iald C (tg_11_18 _ hr0) (inb_in g350) d_RM_isScan_122 ?_
      refine j_nm (fun v351 v351_e => ?_)
      refine j_istore (lv9 := [(0, .ref (fad F r0)), (1, .int b1), (2, .int b2), (3, .int a3), (4, .int v349), (5, .int v351)]) C d_RM_isScan_123 rfl rfl (by decide) ?_
      refine j_iload C d_RM_isScan_125 4 rfl ?_
      refine j_iconst (v := (0 : Int32)) C d_RM_isScan_127 (by decide) ?_
      refine j_aload_n C d_RM_isScan_128 0 rfl ?_
      refine j_getI C hr0 fl_RM_227 rfl d_RM_isScan_129 ?_
      refine j_iconst (v := (1 : Int32)) C d_RM_isScan_132 (by decide) ?_
      refine j_isub C d_RM_isScan_133 ?_
      refine j_callSi C ms_RM_93 [.int v349, .int (0 : Int32), .int ((σ r0 37) - (1 : Int32))] [] (c_RM_isIn v349 (0 : Int32) ((σ r0 37) - (1 : Int32)) σ) rfl rfl (by decide) (Nat.le_of_ble_eq_true rfl) d_RM_isScan_134 ?_
      refine j_if_ne (tgt := 151) C d_RM_isScan_137 (by decide) (fun c352 => ?_) (fun c352 => ?_)
      · refine j_iload_n C d_RM_isScan_151 2 rfl ?_
        refine j_iconst (v := (1 : Int32)) C d_RM_isScan_152 (by decide) ?_
        refine j_join0m 172 (fun _ => [(0, .ref (fad F r0)), (1, .int b1), (2, .int b2), (3, .int a3), (4, .int v349), (5, .int v351)]) (fun _ => []) (fun σ416 => ?_) (fun K417 H418 => ?_)
        · refine j_aload_n C d_RM_isScan_172 0 rfl ?_
          refine j_getR C hr0 fl_RM_74 rfl d_RM_isScan_173 ?_
          refine j_iload C d_RM_isScan_176 4 rfl ?_
          refine j_need (by exact h0) (fun g419 => ?_)
          refine j_zald C (tg_11_50 _ hr0) (inb_in g419) d_RM_isScan_178 ?_
          refine j_if_eq (tgt := 192) C d_RM_isScan_179 (by decide) (fun c420 => ?_) (fun c420 => ?_)
          · refine j_iload C d_RM_isScan_192 5 rfl ?_
            refine j_join0m 226 (fun _ => [(0, .ref (fad F r0)), (1, .int b1), (2, .int b2), (3, .int a3), (4, .int v349), (5, .int v351)]) (fun _ => []) (fun σ426 => ?_) (fun K427 H428 => ?_)
            · refine j_iinc (v := (a3 + (1 : Int32))) (lv9 := [(0, .ref (fad F r0)), (1, .int b1), (2, .int b2), (3, .int (a3 + (1 : Int32))), (4, .int v349), (5, .int v351)]) C d_RM_isScan_226 3 rfl rfl rfl rfl (by decide) ?_
              refine j_goto (tgt := 83) C d_RM_isScan_229 (by decide) ?_
              refine j_sub (lv9 := [(0, .ref (fad F r0)), (1, .int b1), (2, .int b2), (3, .int (a3 + (1 : Int32)))]) [0, 1, 2, 3] rfl ?_
              exact ih (a3 + (1 : Int32)) σ426
            · refine j_if_eq (tgt := 226) C d_RM_isScan_194 (by decide) (fun c429 => ?_) (fun c429 => ?_)
              · exact H428 σ416
              · refine j_iload C d_RM_isScan_197 5 rfl ?_
                refine j_iload C d_RM_isScan_199 4 rfl ?_
                refine j_iconst (v := (1 : Int32)) C d_RM_isScan_201 (by decide) ?_
                refine j_iadd C d_RM_isScan_202 ?_
                refine j_join0 216 ([(0, .ref (fad F r0)), (1, .int b1), (2, .int b2), (3, .int a3), (4, .int v349), (5, .int v351)]) ([]) (?_) (fun K443 H444 => ?_)
                · refine j_aload_n C d_RM_isScan_216 0 rfl ?_
                  refine j_iconst (v := (4 : Int32)) C d_RM_isScan_217 (by decide) ?_
                  refine j_aload_n C d_RM_isScan_218 0 rfl ?_
                  refine j_getI C hr0 fl_RM_216 rfl d_RM_isScan_219 ?_
                  refine j_callVi C mv_RM_219 [.int (4 : Int32), .int (σ416 r0 32)] [] hr0 (c_RM_broken hr0 (4 : Int32) (σ416 r0 32) σ416) rfl rfl (by decide) (Nat.le_of_ble_eq_true rfl) d_RM_isScan_222 ?_
                  refine j_genIMz (z_RM_broken _ _ _ _) (fun q445 q445_z => ?_)
                  exact j_iretz C (hR (q445.1, q445.2)) (nz01 q445_z) d_RM_isScan_225
                · refine j_icmp_ne (tgt := 216) C d_RM_isScan_203 (by decide) (fun c446 => ?_) (fun c446 => ?_)
                  · exact H444
                  · refine j_aload_n C d_RM_isScan_206 0 rfl ?_
                    refine j_getR C hr0 fl_RM_59 rfl d_RM_isScan_207 ?_
                    refine j_iload C d_RM_isScan_210 4 rfl ?_
                    refine j_need (by exact h0) (fun g447 => ?_)
                    refine j_zald C (tg_11_45 _ hr0) (inb_in g447) d_RM_isScan_212 ?_
                    refine j_if_ne (tgt := 226) C d_RM_isScan_213 (by decide) (fun c448 => ?_) (fun c448 => ?_)
                    · exact H428 σ416
                    · exact H444
          · refine j_aload_n C d_RM_isScan_182 0 rfl ?_
            refine j_iconst (v := (5 : Int32)) C d_RM_isScan_183 (by decide) ?_
            refine j_aload_n C d_RM_isScan_184 0 rfl ?_
            refine j_getI C hr0 fl_RM_216 rfl d_RM_isScan_185 ?_
            refine j_callVi C mv_RM_219 [.int (5 : Int32), .int (σ416 r0 32)] [] hr0 (c_RM_broken hr0 (5 : Int32) (σ416 r0 32) σ416) rfl rfl (by decide) (Nat.le_of_ble_eq_true rfl) d_RM_isScan_188 ?_
            refine j_genIMz (z_RM_broken _ _ _ _) (fun q449 q449_z => ?_)
            exact j_iretz C (hR (q449.1, q449.2)) (nz01 q449_z) d_RM_isScan_191
        · refine j_icmp_le (tgt := 172) C d_RM_isScan_153 (by decide) (fun c450 => ?_) (fun c450 => ?_)
          · exact H418 σ
          · refine j_iload C d_RM_isScan_156 4 rfl ?_
            refine j_iload_n C d_RM_isScan_158 3 rfl ?_
            refine j_icmp_eq (tgt := 172) C d_RM_isScan_159 (by decide) (fun c451 => ?_) (fun c451 => ?_)
            · exact H418 σ
            · refine j_aload_n C d_RM_isScan_162 0 rfl ?_
              refine j_iconst (v := (4 : Int32)) C d_RM_isScan_163 (by decide) ?_
              refine j_aload_n C d_RM_isScan_164 0 rfl ?_
              refine j_getI C hr0 fl_RM_216 rfl d_RM_isScan_165 ?_
              refine j_callVi C mv_RM_219 [.int (4 : Int32), .int (σ r0 32)] [] hr0 (c_RM_broken hr0 (4 : Int32) (σ r0 32) σ) rfl rfl (by decide) (Nat.le_of_ble_eq_true rfl) d_RM_isScan_168 ?_
              refine j_genIMz (z_RM_broken _ _ _ _) (fun q452 q452_z => ?_)
              exact j_iretz C (hR (q452.1, q452.2)) (nz01 q452_z) d_RM_isScan_171
      · refine j_aload_n C d_RM_isScan_140 0 rfl ?_
        refine j_bipush (v := (6 : Int32)) C d_RM_isScan_141 (by decide) ?_
        refine j_aload_n C d_RM_isScan_143 0 rfl ?_
        refine j_getI C hr0 fl_RM_216 rfl d_RM_isScan_144 ?_
        refine j_callVi C mv_RM_219 [.int (6 : Int32), .int (σ r0 32)] [] hr0 (c_RM_broken hr0 (6 : Int32) (σ r0 32) σ) rfl rfl (by decide) (Nat.le_of_ble_eq_true rfl) d_RM_isScan_147 ?_
        refine j_genIMz (z_RM_broken _ _ _ _) (fun q453 q453_z => ?_)
        exact j_iretz C (hR (q453.1, q453.2)) (nz01 q453_z) d_RM_isScan_150
set_option maxHeartbeats 4000000 in
set_option maxRecDepth 100000 in
theorem w_RM_isScan {F : Fx} (C : Ctx F prog_13_method_43_code 6 "LineFramesModel" (some .boolean) 1 22) {k0 : Nat} (h0k : Is k0 11) (σ : Mem) : J F 6 (cvO cvIM) (f_RM_isScan k0 σ) σ 0 [(0, .ref (fad F k0))] [] := by
  unfold f_RM_isScan
  refine j_aload_n C d_RM_isScan_0 0 rfl ?_
  refine j_aload_n C d_RM_isScan_1 0 rfl ?_
  refine j_getI C h0k fl_RM_216 rfl d_RM_isScan_2 ?_
  refine j_iconst (v := (2 : Int32)) C d_RM_isScan_5 (by decide) ?_
  refine j_iadd C d_RM_isScan_6 ?_
  refine j_bind rfl (fun r2 e1 => ?_)
  refine j_callVi C mv_RM_230 [.int ((σ k0 32) + (2 : Int32))] [] h0k (c_RM_wide h0k ((σ k0 32) + (2 : Int32)) σ e1) rfl rfl (by decide) (Nat.le_of_ble_eq_true rfl) d_RM_isScan_7 ?_
  refine j_istore_n (lv9 := [(0, .ref (fad F k0)), (1, .int r2)]) C d_RM_isScan_10 rfl rfl (by decide) ?_
  refine j_iload_n C d_RM_isScan_11 1 rfl ?_
  refine j_iconst (v := (3 : Int32)) C d_RM_isScan_12 (by decide) ?_
  refine j_join0m 36 (fun _ => [(0, .ref (fad F k0)), (1, .int r2)]) (fun _ => []) (fun σ16 => ?_) (fun K17 H18 => ?_)
  · refine j_aload_n C d_RM_isScan_36 0 rfl ?_
    refine j_iconst (v := (3 : Int32)) C d_RM_isScan_37 (by decide) ?_
    refine j_aload_n C d_RM_isScan_38 0 rfl ?_
    refine j_getI C h0k fl_RM_216 rfl d_RM_isScan_39 ?_
    refine j_callVi C mv_RM_219 [.int (3 : Int32), .int (σ16 k0 32)] [] h0k (c_RM_broken h0k (3 : Int32) (σ16 k0 32) σ16) rfl rfl (by decide) (Nat.le_of_ble_eq_true rfl) d_RM_isScan_42 ?_
    refine j_genIMz (z_RM_broken _ _ _ _) (fun q19 q19_z => ?_)
    exact j_iretz C (fun ρ h => leaf_eq h) (nz01 q19_z) d_RM_isScan_45
  · refine j_icmp_lt (tgt := 36) C d_RM_isScan_13 (by decide) (fun c20 => ?_) (fun c20 => ?_)
    · exact H18 σ
    · refine j_iload_n C d_RM_isScan_16 1 rfl ?_
      refine j_bipush (v := (6 : Int32)) C d_RM_isScan_17 (by decide) ?_
      refine j_iconst (v := (2 : Int32)) C d_RM_isScan_19 (by decide) ?_
      refine j_aload_n C d_RM_isScan_20 0 rfl ?_
      refine j_getR C h0k fl_RM_32 rfl d_RM_isScan_21 ?_
      refine j_aload_n C d_RM_isScan_24 0 rfl ?_
      refine j_getI C h0k fl_RM_216 rfl d_RM_isScan_25 ?_
      refine j_iconst (v := (4 : Int32)) C d_RM_isScan_28 (by decide) ?_
      refine j_iadd C d_RM_isScan_29 ?_
      refine j_need rfl (fun g21 => ?_)
      refine j_iald C (tg_11_18 _ h0k) (inb_in g21) d_RM_isScan_30 ?_
      refine j_imul C d_RM_isScan_31 ?_
      refine j_iadd C d_RM_isScan_32 ?_
      refine j_icmp_eq (tgt := 46) C d_RM_isScan_33 (by decide) (fun c22 => ?_) (fun c22 => ?_)
      · refine j_aload_n C d_RM_isScan_46 0 rfl ?_
        refine j_getR C h0k fl_RM_32 rfl d_RM_isScan_47 ?_
        refine j_aload_n C d_RM_isScan_50 0 rfl ?_
        refine j_getI C h0k fl_RM_216 rfl d_RM_isScan_51 ?_
        refine j_iconst (v := (4 : Int32)) C d_RM_isScan_54 (by decide) ?_
        refine j_iadd C d_RM_isScan_55 ?_
        refine j_need rfl (fun g23 => ?_)
        refine j_iald C (tg_11_18 _ h0k) (inb_in g23) d_RM_isScan_56 ?_
        refine j_nm (fun v24 v24_e => ?_)
        refine j_istore_n (lv9 := [(0, .ref (fad F k0)), (1, .int r2), (2, .int v24)]) C d_RM_isScan_57 rfl rfl (by decide) ?_
        refine j_iload_n C d_RM_isScan_58 2 rfl ?_
        refine j_iconst (v := (1 : Int32)) C d_RM_isScan_59 (by decide) ?_
        refine j_join0m 81 (fun _ => [(0, .ref (fad F k0)), (1, .int r2), (2, .int v24)]) (fun _ => []) (fun σ344 => ?_) (fun K345 H346 => ?_)
        · refine j_iconst (v := (0 : Int32)) C d_RM_isScan_81 (by decide) ?_
          refine j_istore_n (lv9 := [(0, .ref (fad F k0)), (1, .int r2), (2, .int v24), (3, .int (0 : Int32))]) C d_RM_isScan_82 rfl rfl (by decide) ?_
          refine j_loop (wL_RM_isScan_83 C rfl k0 h0k r2 v24 (fun e566 ρ h => leaf_eq h) (fun q454 => j_some ?_) 9999 (0 : Int32) σ344)
          refine j_ecl ?_
          refine j_aload_n C d_RM_isScan_232 0 rfl ?_
          refine j_getI C h0k fl_RM_216 rfl d_RM_isScan_233 ?_
          refine j_iconst (v := (5 : Int32)) C d_RM_isScan_236 (by decide) ?_
          refine j_iadd C d_RM_isScan_237 ?_
          refine j_iconst (v := (2 : Int32)) C d_RM_isScan_238 (by decide) ?_
          refine j_iload_n C d_RM_isScan_239 2 rfl ?_
          refine j_imul C d_RM_isScan_240 ?_
          refine j_iadd C d_RM_isScan_241 ?_
          refine j_nm (fun v455 v455_e => ?_)
          refine j_istore_n (lv9 := [(0, .ref (fad F k0)), (1, .int r2), (2, .int v24), (3, .int v455)]) C d_RM_isScan_242 rfl rfl (by decide) ?_
          refine j_iload_n C d_RM_isScan_243 2 rfl ?_
          refine j_iconst (v := (1 : Int32)) C d_RM_isScan_244 (by decide) ?_
          refine j_join1 280 (fun _ => [(0, .ref (fad F k0)), (1, .int r2), (2, .int v24), (3, .int v455)]) (fun y533 => [.int y533]) (fun y533 => ?_) (fun K534 H535 => ?_)
          · refine j_istore (lv9 := [(0, .ref (fad F k0)), (1, .int r2), (2, .int v24), (3, .int v455), (4, .int y533)]) C d_RM_isScan_280 rfl rfl (by decide) ?_
            refine j_aload_n C d_RM_isScan_282 0 rfl ?_
            refine j_getR C h0k fl_RM_32 rfl d_RM_isScan_283 ?_
            refine j_iload_n C d_RM_isScan_286 3 rfl ?_
            refine j_need rfl (fun g536 => ?_)
            refine j_iald C (tg_11_18 _ h0k) (inb_in g536) d_RM_isScan_287 ?_
            refine j_iconst (v := (3 : Int32)) C d_RM_isScan_288 (by decide) ?_
            refine j_join0m 308 (fun _ => [(0, .ref (fad F k0)), (1, .int r2), (2, .int v24), (3, .int v455), (4, .int y533)]) (fun _ => []) (fun σ550 => ?_) (fun K551 H552 => ?_)
            · refine j_aload_n C d_RM_isScan_308 0 rfl ?_
              refine j_iconst (v := (4 : Int32)) C d_RM_isScan_309 (by decide) ?_
              refine j_aload_n C d_RM_isScan_310 0 rfl ?_
              refine j_getI C h0k fl_RM_216 rfl d_RM_isScan_311 ?_
              refine j_callVi C mv_RM_219 [.int (4 : Int32), .int (σ550 k0 32)] [] h0k (c_RM_broken h0k (4 : Int32) (σ550 k0 32) σ550) rfl rfl (by decide) (Nat.le_of_ble_eq_true rfl) d_RM_isScan_314 ?_
              refine j_genIMz (z_RM_broken _ _ _ _) (fun q553 q553_z => ?_)
              exact j_iretz C (fun ρ h => leaf_eq h) (nz01 q553_z) d_RM_isScan_317
            · refine j_icmp_gt (tgt := 308) C d_RM_isScan_289 (by decide) (fun c554 => ?_) (fun c554 => ?_)
              · exact H552 q454.2
              · refine j_iload C d_RM_isScan_292 4 rfl ?_
                refine j_if_eq (tgt := 308) C d_RM_isScan_294 (by decide) (fun c555 => ?_) (fun c555 => ?_)
                · exact H552 q454.2
                · refine j_aload_n C d_RM_isScan_297 0 rfl ?_
                  refine j_getR C h0k fl_RM_32 rfl d_RM_isScan_298 ?_
                  refine j_iload_n C d_RM_isScan_301 3 rfl ?_
                  refine j_iconst (v := (2 : Int32)) C d_RM_isScan_302 (by decide) ?_
                  refine j_iadd C d_RM_isScan_303 ?_
                  refine j_need rfl (fun g556 => ?_)
                  refine j_iald C (tg_11_18 _ h0k) (inb_in g556) d_RM_isScan_304 ?_
                  refine j_if_eq (tgt := 318) C d_RM_isScan_305 (by decide) (fun c557 => ?_) (fun c557 => ?_)
                  · refine j_aload_n C d_RM_isScan_318 0 rfl ?_
                    refine j_aload_n C d_RM_isScan_319 0 rfl ?_
                    refine j_getR C h0k fl_RM_32 rfl d_RM_isScan_320 ?_
                    refine j_iload_n C d_RM_isScan_323 3 rfl ?_
                    refine j_need rfl (fun g558 => ?_)
                    refine j_iald C (tg_11_18 _ h0k) (inb_in g558) d_RM_isScan_324 ?_
                    refine j_put C h0k fl_RM_254 fw_11_42 rfl rfl rfl d_RM_isScan_325 (fun σ559 => ?_)
                    refine j_aload_n C d_RM_isScan_328 0 rfl ?_
                    refine j_aload_n C d_RM_isScan_329 0 rfl ?_
                    refine j_getR C h0k fl_RM_32 rfl d_RM_isScan_330 ?_
                    refine j_iload_n C d_RM_isScan_333 3 rfl ?_
                    refine j_iconst (v := (1 : Int32)) C d_RM_isScan_334 (by decide) ?_
                    refine j_iadd C d_RM_isScan_335 ?_
                    refine j_need rfl (fun g560 => ?_)
                    refine j_iald C (tg_11_18 _ h0k) (inb_in g560) d_RM_isScan_336 ?_
                    refine j_put C h0k fl_RM_257 fw_11_43 rfl rfl rfl d_RM_isScan_337 (fun σ561 => ?_)
                    refine j_iconst (v := (1 : Int32)) C d_RM_isScan_340 (by decide) ?_
                    exact j_iretz C (fun ρ h => leaf_eq h) (nz01 (Or.inr rfl)) d_RM_isScan_341
                  · exact H552 q454.2
          · refine j_icmp_ne (tgt := 267) C d_RM_isScan_245 (by decide) (fun c562 => ?_) (fun c562 => ?_)
            · refine j_aload_n C d_RM_isScan_267 0 rfl ?_
              refine j_getR C h0k fl_RM_32 rfl d_RM_isScan_268 ?_
              refine j_iload_n C d_RM_isScan_271 3 rfl ?_
              refine j_iconst (v := (1 : Int32)) C d_RM_isScan_272 (by decide) ?_
              refine j_iadd C d_RM_isScan_273 ?_
              refine j_need rfl (fun g563 => ?_)
              refine j_iald C (tg_11_18 _ h0k) (inb_in g563) d_RM_isScan_274 ?_
              refine j_iconst (v := (1 : Int32)) C d_RM_isScan_275 (by decide) ?_
              refine j_iconst (v := (2 : Int32)) C d_RM_isScan_276 (by decide) ?_
              refine j_callSi C ms_RM_93 [.int (q454.2 (wtg k0 18) (v455 + (1 : Int32)).toNatClampNeg), .int (1 : Int32), .int (2 : Int32)] [] (c_RM_isIn (q454.2 (wtg k0 18) (v455 + (1 : Int32)).toNatClampNeg) (1 : Int32) (2 : Int32) q454.2) rfl rfl (by decide) (Nat.le_of_ble_eq_true rfl) d_RM_isScan_277 ?_
              exact H535 (f_RM_isIn (q454.2 (wtg k0 18) (v455 + (1 : Int32)).toNatClampNeg) (1 : Int32) (2 : Int32) q454.2)
            · refine j_aload_n C d_RM_isScan_248 0 rfl ?_
              refine j_getR C h0k fl_RM_32 rfl d_RM_isScan_249 ?_
              refine j_iload_n C d_RM_isScan_252 3 rfl ?_
              refine j_iconst (v := (1 : Int32)) C d_RM_isScan_253 (by decide) ?_
              refine j_iadd C d_RM_isScan_254 ?_
              refine j_need rfl (fun g564 => ?_)
              refine j_iald C (tg_11_18 _ h0k) (inb_in g564) d_RM_isScan_255 ?_
              refine j_if_ne (tgt := 263) C d_RM_isScan_256 (by decide) (fun c565 => ?_) (fun c565 => ?_)
              · refine j_iconst (v := (0 : Int32)) C d_RM_isScan_263 (by decide) ?_
                refine j_goto (tgt := 280) C d_RM_isScan_264 (by decide) ?_
                exact H535 (0 : Int32)
              · refine j_iconst (v := (1 : Int32)) C d_RM_isScan_259 (by decide) ?_
                refine j_goto (tgt := 280) C d_RM_isScan_260 (by decide) ?_
                exact H535 (1 : Int32)
        · refine j_icmp_eq (tgt := 81) C d_RM_isScan_60 (by decide) (fun c567 => ?_) (fun c567 => ?_)
          · exact H346 σ
          · refine j_iload_n C d_RM_isScan_63 2 rfl ?_
            refine j_aload_n C d_RM_isScan_64 0 rfl ?_
            refine j_getI C h0k fl_RM_227 rfl d_RM_isScan_65 ?_
            refine j_icmp_eq (tgt := 81) C d_RM_isScan_68 (by decide) (fun c568 => ?_) (fun c568 => ?_)
            · exact H346 σ
            · refine j_aload_n C d_RM_isScan_71 0 rfl ?_
              refine j_iconst (v := (4 : Int32)) C d_RM_isScan_72 (by decide) ?_
              refine j_aload_n C d_RM_isScan_73 0 rfl ?_
              refine j_getI C h0k fl_RM_216 rfl d_RM_isScan_74 ?_
              refine j_callVi C mv_RM_219 [.int (4 : Int32), .int (σ k0 32)] [] h0k (c_RM_broken h0k (4 : Int32) (σ k0 32) σ) rfl rfl (by decide) (Nat.le_of_ble_eq_true rfl) d_RM_isScan_77 ?_
              refine j_genIMz (z_RM_broken _ _ _ _) (fun q569 q569_z => ?_)
              exact j_iretz C (fun ρ h => leaf_eq h) (nz01 q569_z) d_RM_isScan_80
      · exact H18 σ
theorem c_RM_isScan {l : Launch} {D : va_G} {G : GC} {ad : Nat → Nat} {k0 : Nat} (h0k : Is k0 11) (σ : Mem) {q : Int32 × Mem} (hq : f_RM_isScan k0 σ = some q) : Ctr l D G ad ⟨"LineFramesModel", "isScan", "()Z"⟩ prog_13_method_43_code 6 (some .boolean) 1 22 [.ref (ad k0)] σ (.inl (some (.int q.1)), q.2) := ctr_J (cv := (cvO cvIM)) (E := f_RM_isScan k0 σ) (by decide +kernel) (Nat.le_of_ble_eq_true rfl) (by rw [hq]; rfl) (fun F h C => by subst h; exact w_RM_isScan C h0k σ)
/-! LineFramesModel isNote ()Z -/
theorem d_RM_isNote_0 : decode prog_13_method_39_code 0 = .ok (.aload_n 0, 1) := by decide +kernel
theorem d_RM_isNote_1 : decode prog_13_method_39_code 1 = .ok (.aload_n 0, 1) := by decide +kernel
theorem d_RM_isNote_2 : decode prog_13_method_39_code 2 = .ok (.getfield 216, 3) := by decide +kernel
theorem d_RM_isNote_5 : decode prog_13_method_39_code 5 = .ok (.iconst 2, 1) := by decide +kernel
theorem d_RM_isNote_6 : decode prog_13_method_39_code 6 = .ok (.iadd, 1) := by decide +kernel
theorem d_RM_isNote_7 : decode prog_13_method_39_code 7 = .ok (.invokevirtual 230, 3) := by decide +kernel
theorem d_RM_isNote_10 : decode prog_13_method_39_code 10 = .ok (.iconst 2, 1) := by decide +kernel
theorem d_RM_isNote_11 : decode prog_13_method_39_code 11 = .ok (.isub, 1) := by decide +kernel
theorem d_RM_isNote_12 : decode prog_13_method_39_code 12 = .ok (.istore_n 1, 1) := by decide +kernel
theorem d_RM_isNote_13 : decode prog_13_method_39_code 13 = .ok (.aload_n 0, 1) := by decide +kernel
theorem d_RM_isNote_14 : decode prog_13_method_39_code 14 = .ok (.getfield 233, 3) := by decide +kernel
theorem d_RM_isNote_17 : decode prog_13_method_39_code 17 = .ok (.bipush 6, 2) := by decide +kernel
theorem d_RM_isNote_19 : decode prog_13_method_39_code 19 = .ok (.if_icmp .eq 9, 3) := by decide +kernel
theorem d_RM_isNote_22 : decode prog_13_method_39_code 22 = .ok (.iload_n 1, 1) := by decide +kernel
theorem d_RM_isNote_23 : decode prog_13_method_39_code 23 = .ok (.bipush 30, 2) := by decide +kernel
theorem d_RM_isNote_25 : decode prog_13_method_39_code 25 = .ok (.if_icmp .le 13, 3) := by decide +kernel
theorem d_RM_isNote_28 : decode prog_13_method_39_code 28 = .ok (.aload_n 0, 1) := by decide +kernel
theorem d_RM_isNote_29 : decode prog_13_method_39_code 29 = .ok (.iconst 4, 1) := by decide +kernel
theorem d_RM_isNote_30 : decode prog_13_method_39_code 30 = .ok (.aload_n 0, 1) := by decide +kernel
theorem d_RM_isNote_31 : decode prog_13_method_39_code 31 = .ok (.getfield 216, 3) := by decide +kernel
theorem d_RM_isNote_34 : decode prog_13_method_39_code 34 = .ok (.invokevirtual 219, 3) := by decide +kernel
theorem d_RM_isNote_37 : decode prog_13_method_39_code 37 = .ok (.ireturn, 1) := by decide +kernel
theorem d_RM_isNote_38 : decode prog_13_method_39_code 38 = .ok (.aload_n 0, 1) := by decide +kernel
theorem d_RM_isNote_39 : decode prog_13_method_39_code 39 = .ok (.getfield 65, 3) := by decide +kernel
theorem d_RM_isNote_42 : decode prog_13_method_39_code 42 = .ok (.aload_n 0, 1) := by decide +kernel
theorem d_RM_isNote_43 : decode prog_13_method_39_code 43 = .ok (.getfield 233, 3) := by decide +kernel
theorem d_RM_isNote_46 : decode prog_13_method_39_code 46 = .ok (.aload_n 0, 1) := by decide +kernel
theorem d_RM_isNote_47 : decode prog_13_method_39_code 47 = .ok (.getfield 32, 3) := by decide +kernel
theorem d_RM_isNote_50 : decode prog_13_method_39_code 50 = .ok (.aload_n 0, 1) := by decide +kernel
theorem d_RM_isNote_51 : decode prog_13_method_39_code 51 = .ok (.getfield 216, 3) := by decide +kernel
theorem d_RM_isNote_54 : decode prog_13_method_39_code 54 = .ok (.iconst 1, 1) := by decide +kernel
theorem d_RM_isNote_55 : decode prog_13_method_39_code 55 = .ok (.iadd, 1) := by decide +kernel
theorem d_RM_isNote_56 : decode prog_13_method_39_code 56 = .ok (.iaload, 1) := by decide +kernel
theorem d_RM_isNote_57 : decode prog_13_method_39_code 57 = .ok (.sipush 254, 3) := by decide +kernel
theorem d_RM_isNote_60 : decode prog_13_method_39_code 60 = .ok (.if_icmp .ne 8, 3) := by decide +kernel
theorem d_RM_isNote_63 : decode prog_13_method_39_code 63 = .ok (.bipush 16, 2) := by decide +kernel
theorem d_RM_isNote_65 : decode prog_13_method_39_code 65 = .ok (.goto 18, 3) := by decide +kernel
theorem d_RM_isNote_68 : decode prog_13_method_39_code 68 = .ok (.aload_n 0, 1) := by decide +kernel
theorem d_RM_isNote_69 : decode prog_13_method_39_code 69 = .ok (.getfield 32, 3) := by decide +kernel
theorem d_RM_isNote_72 : decode prog_13_method_39_code 72 = .ok (.aload_n 0, 1) := by decide +kernel
theorem d_RM_isNote_73 : decode prog_13_method_39_code 73 = .ok (.getfield 216, 3) := by decide +kernel
theorem d_RM_isNote_76 : decode prog_13_method_39_code 76 = .ok (.iconst 1, 1) := by decide +kernel
theorem d_RM_isNote_77 : decode prog_13_method_39_code 77 = .ok (.iadd, 1) := by decide +kernel
theorem d_RM_isNote_78 : decode prog_13_method_39_code 78 = .ok (.iaload, 1) := by decide +kernel
theorem d_RM_isNote_79 : decode prog_13_method_39_code 79 = .ok (.sipush 224, 3) := by decide +kernel
theorem d_RM_isNote_82 : decode prog_13_method_39_code 82 = .ok (.isub, 1) := by decide +kernel
theorem d_RM_isNote_83 : decode prog_13_method_39_code 83 = .ok (.iastore, 1) := by decide +kernel
theorem d_RM_isNote_84 : decode prog_13_method_39_code 84 = .ok (.aload_n 0, 1) := by decide +kernel
theorem d_RM_isNote_85 : decode prog_13_method_39_code 85 = .ok (.getfield 68, 3) := by decide +kernel
theorem d_RM_isNote_88 : decode prog_13_method_39_code 88 = .ok (.aload_n 0, 1) := by decide +kernel
theorem d_RM_isNote_89 : decode prog_13_method_39_code 89 = .ok (.getfield 233, 3) := by decide +kernel
theorem d_RM_isNote_92 : decode prog_13_method_39_code 92 = .ok (.iload_n 1, 1) := by decide +kernel
theorem d_RM_isNote_93 : decode prog_13_method_39_code 93 = .ok (.iastore, 1) := by decide +kernel
theorem d_RM_isNote_94 : decode prog_13_method_39_code 94 = .ok (.iconst 0, 1) := by decide +kernel
theorem d_RM_isNote_95 : decode prog_13_method_39_code 95 = .ok (.istore_n 2, 1) := by decide +kernel
theorem d_RM_isNote_96 : decode prog_13_method_39_code 96 = .ok (.iload_n 2, 1) := by decide +kernel
theorem d_RM_isNote_97 : decode prog_13_method_39_code 97 = .ok (.iload_n 1, 1) := by decide +kernel
theorem d_RM_isNote_98 : decode prog_13_method_39_code 98 = .ok (.if_icmp .ge 36, 3) := by decide +kernel
theorem d_RM_isNote_101 : decode prog_13_method_39_code 101 = .ok (.aload_n 0, 1) := by decide +kernel
theorem d_RM_isNote_102 : decode prog_13_method_39_code 102 = .ok (.getfield 71, 3) := by decide +kernel
theorem d_RM_isNote_105 : decode prog_13_method_39_code 105 = .ok (.bipush 30, 2) := by decide +kernel
theorem d_RM_isNote_107 : decode prog_13_method_39_code 107 = .ok (.aload_n 0, 1) := by decide +kernel
theorem d_RM_isNote_108 : decode prog_13_method_39_code 108 = .ok (.getfield 233, 3) := by decide +kernel
theorem d_RM_isNote_111 : decode prog_13_method_39_code 111 = .ok (.imul, 1) := by decide +kernel
theorem d_RM_isNote_112 : decode prog_13_method_39_code 112 = .ok (.iload_n 2, 1) := by decide +kernel
theorem d_RM_isNote_113 : decode prog_13_method_39_code 113 = .ok (.iadd, 1) := by decide +kernel
theorem d_RM_isNote_114 : decode prog_13_method_39_code 114 = .ok (.aload_n 0, 1) := by decide +kernel
theorem d_RM_isNote_115 : decode prog_13_method_39_code 115 = .ok (.getfield 32, 3) := by decide +kernel
theorem d_RM_isNote_118 : decode prog_13_method_39_code 118 = .ok (.aload_n 0, 1) := by decide +kernel
theorem d_RM_isNote_119 : decode prog_13_method_39_code 119 = .ok (.getfield 216, 3) := by decide +kernel
theorem d_RM_isNote_122 : decode prog_13_method_39_code 122 = .ok (.iconst 4, 1) := by decide +kernel
theorem d_RM_isNote_123 : decode prog_13_method_39_code 123 = .ok (.iadd, 1) := by decide +kernel
theorem d_RM_isNote_124 : decode prog_13_method_39_code 124 = .ok (.iload_n 2, 1) := by decide +kernel
theorem d_RM_isNote_125 : decode prog_13_method_39_code 125 = .ok (.iadd, 1) := by decide +kernel
theorem d_RM_isNote_126 : decode prog_13_method_39_code 126 = .ok (.iaload, 1) := by decide +kernel
theorem d_RM_isNote_127 : decode prog_13_method_39_code 127 = .ok (.iastore, 1) := by decide +kernel
theorem d_RM_isNote_128 : decode prog_13_method_39_code 128 = .ok (.iinc 2 1, 3) := by decide +kernel
theorem d_RM_isNote_131 : decode prog_13_method_39_code 131 = .ok (.goto (-35), 3) := by decide +kernel
theorem d_RM_isNote_134 : decode prog_13_method_39_code 134 = .ok (.aload_n 0, 1) := by decide +kernel
theorem d_RM_isNote_135 : decode prog_13_method_39_code 135 = .ok (.dup, 1) := by decide +kernel
theorem d_RM_isNote_136 : decode prog_13_method_39_code 136 = .ok (.getfield 233, 3) := by decide +kernel
theorem d_RM_isNote_139 : decode prog_13_method_39_code 139 = .ok (.iconst 1, 1) := by decide +kernel
theorem d_RM_isNote_140 : decode prog_13_method_39_code 140 = .ok (.iadd, 1) := by decide +kernel
theorem d_RM_isNote_141 : decode prog_13_method_39_code 141 = .ok (.putfield 233, 3) := by decide +kernel
theorem d_RM_isNote_144 : decode prog_13_method_39_code 144 = .ok (.iconst 1, 1) := by decide +kernel
theorem d_RM_isNote_145 : decode prog_13_method_39_code 145 = .ok (.ireturn, 1) := by decide +kernel
def L_RM_isNote_96 (r0 : Nat) (b1 : Int32) : Nat → Int32 → Mem →  Option (Int32 × Mem)
  | 0, _, _ => none
  | n + 1, a2, σ =>
  if b1 ≤ a2 then
  some (a2, σ)
  else
  if inb (((σ r0 32) + (4 : Int32)) + a2) (wln (wtg r0 18)) = true then
  if inb (((30 : Int32) * (σ r0 41)) + a2) (wln (wtg r0 49)) = true then
  lt (mput σ (wtg r0 49) (((30 : Int32) * (σ r0 41)) + a2).toNatClampNeg (σ (wtg r0 18) (((σ r0 32) + (4 : Int32)) + a2).toNatClampNeg)) fun σ114 =>
  L_RM_isNote_96 r0 b1 n (a2 + (1 : Int32)) σ114
  else none
  else none
def f_RM_isNote (k0 : Nat) (σ : Mem) : Option (Int32 × Mem) :=
  (f_RM_wide k0 ((σ k0 32) + (2 : Int32)) σ).bind fun r2 =>
  lt (fun  (σ16 : Mem) => 
  lt (f_RM_broken k0 (4 : Int32) (σ16 k0 32) σ16) fun q19 =>
  some (q19.1, q19.2)) fun K17 =>
  if (σ k0 41) = (6 : Int32) then
  K17 σ
  else
  if (r2 - (2 : Int32)) ≤ (30 : Int32) then
  if inb ((σ k0 32) + (1 : Int32)) (wln (wtg k0 18)) = true then
  lt (fun (y104 : Int32) => 
  if inb (σ k0 41) (wln (wtg k0 47)) = true then
  lt (mput σ (wtg k0 47) (σ k0 41).toNatClampNeg y104) fun σ108 =>
  if inb (σ108 k0 41) (wln (wtg k0 48)) = true then
  lt (mput σ108 (wtg k0 48) (σ108 k0 41).toNatClampNeg (r2 - (2 : Int32))) fun σ110 =>
  (L_RM_isNote_96 k0 (r2 - (2 : Int32)) 9999 (0 : Int32) σ110).bind fun q115 =>
  lt (mput q115.2 k0 41 ((q115.2 k0 41) + (1 : Int32))) fun σ116 =>
  some ((1 : Int32), σ116)
  else none
  else none) fun K105 =>
  if (σ (wtg k0 18) ((σ k0 32) + (1 : Int32)).toNatClampNeg) = (254 : Int32) then
  K105 (16 : Int32)
  else
  if inb ((σ k0 32) + (1 : Int32)) (wln (wtg k0 18)) = true then
  K105 ((σ (wtg k0 18) ((σ k0 32) + (1 : Int32)).toNatClampNeg) - (224 : Int32))
  else none
  else none
  else
  K17 σ
set_option maxHeartbeats 4000000 in
set_option maxRecDepth 100000 in
theorem wL_RM_isNote_96 {F : Fx} (C : Ctx F prog_13_method_39_code 3 "LineFramesModel" (some .boolean) 1 22) {cv : Option (Int32 × Mem) → Option Rs} (h0 : cv none = none) (r0 : Nat) (hr0 : Is r0 11) (b1 : Int32) (hex : ∀ q : Int32 × Mem, J F 3 cv (some q) q.2 134 [(0, .ref (fad F r0)), (1, .int b1), (2, .int q.1)] []) : ∀ (n : Nat) (a2 : Int32) (σ : Mem), J F 3 cv (L_RM_isNote_96 r0 b1 n a2 σ) σ 96 [(0, .ref (fad F r0)), (1, .int b1), (2, .int a2)] [] := by
  intro n
  induction n with
  | zero => intro a2 σ hE; rw [L_RM_isNote_96, h0] at hE; cases hE
  | succ n ih =>
    intro a2 σ
    rw [L_RM_isNote_96]
    refine j_iload_n C d_RM_isNote_96 2 rfl ?_
    refine j_iload_n C d_RM_isNote_97 1 rfl ?_
    refine j_icmp_ge (tgt := 134) C d_RM_isNote_98 (by decide) (fun c111 => ?_) (fun c111 => ?_)
    · exact hex (a2, σ)
    · refine j_aload_n C d_RM_isNote_101 0 rfl ?_
      refine j_getR C hr0 fl_RM_71 rfl d_RM_isNote_102 ?_
      refine j_bipush (v := (30 : Int32)) C d_RM_isNote_105 (by decide) ?_
      refine j_aload_n C d_RM_isNote_107 0 rfl ?_
      refine j_getI C hr0 fl_RM_233 rfl d_RM_isNote_108 ?_
      refine j_imul C d_RM_isNote_111 ?_
      refine j_iload_n C d_RM_isNote_112 2 rfl ?_
      refine j_iadd C d_RM_isNote_113 ?_
      refine j_aload_n C d_RM_isNote_114 0 rfl ?_
      refine j_getR C hr0 fl_RM_32 rfl d_RM_isNote_115 ?_
      refine j_aload_n C d_RM_isNote_118 0 rfl ?_
      refine j_getI C hr0 fl_RM_216 rfl d_RM_isNote_119 ?_
      refine j_iconst (v := (4 : Int32)) C d_RM_isNote_122 (by decide) ?_
      refine j_iadd C d_RM_isNote_123 ?_
      refine j_iload_n C d_RM_isNote_124 2 rfl ?_
      refine j_iadd C d_RM_isNote_125 ?_
      refine j_need (by exact h0) (fun g112 => ?_)
      refine j_iald C (tg_11_18 _ hr0) (inb_in g112) d_RM_isNote_126 ?_
      refine j_need (by exact h0) (fun g113 => ?_)
      refine j_iast C (tg_11_49 _ hr0) (inb_in g113) d_RM_isNote_127 (fun σ114 => ?_)
      refine j_iinc (v := (a2 + (1 : Int32))) (lv9 := [(0, .ref (fad F r0)), (1, .int b1), (2, .int (a2 + (1 : Int32)))]) C d_RM_isNote_128 2 rfl rfl rfl rfl (by decide) ?_
      refine j_goto (tgt := 96) C d_RM_isNote_131 (by decide) ?_
      exact ih (a2 + (1 : Int32)) σ114
set_option maxHeartbeats 4000000 in
set_option maxRecDepth 100000 in
theorem w_RM_isNote {F : Fx} (C : Ctx F prog_13_method_39_code 3 "LineFramesModel" (some .boolean) 1 22) {k0 : Nat} (h0k : Is k0 11) (σ : Mem) : J F 3 (cvO cvIM) (f_RM_isNote k0 σ) σ 0 [(0, .ref (fad F k0))] [] := by
  unfold f_RM_isNote
  refine j_aload_n C d_RM_isNote_0 0 rfl ?_
  refine j_aload_n C d_RM_isNote_1 0 rfl ?_
  refine j_getI C h0k fl_RM_216 rfl d_RM_isNote_2 ?_
  refine j_iconst (v := (2 : Int32)) C d_RM_isNote_5 (by decide) ?_
  refine j_iadd C d_RM_isNote_6 ?_
  refine j_bind rfl (fun r2 e1 => ?_)
  refine j_callVi C mv_RM_230 [.int ((σ k0 32) + (2 : Int32))] [] h0k (c_RM_wide h0k ((σ k0 32) + (2 : Int32)) σ e1) rfl rfl (by decide) (Nat.le_of_ble_eq_true rfl) d_RM_isNote_7 ?_
  refine j_iconst (v := (2 : Int32)) C d_RM_isNote_10 (by decide) ?_
  refine j_isub C d_RM_isNote_11 ?_
  refine j_istore_n (lv9 := [(0, .ref (fad F k0)), (1, .int (r2 - (2 : Int32)))]) C d_RM_isNote_12 rfl rfl (by decide) ?_
  refine j_aload_n C d_RM_isNote_13 0 rfl ?_
  refine j_getI C h0k fl_RM_233 rfl d_RM_isNote_14 ?_
  refine j_bipush (v := (6 : Int32)) C d_RM_isNote_17 (by decide) ?_
  refine j_join0m 28 (fun _ => [(0, .ref (fad F k0)), (1, .int (r2 - (2 : Int32)))]) (fun _ => []) (fun σ16 => ?_) (fun K17 H18 => ?_)
  · refine j_aload_n C d_RM_isNote_28 0 rfl ?_
    refine j_iconst (v := (4 : Int32)) C d_RM_isNote_29 (by decide) ?_
    refine j_aload_n C d_RM_isNote_30 0 rfl ?_
    refine j_getI C h0k fl_RM_216 rfl d_RM_isNote_31 ?_
    refine j_callVi C mv_RM_219 [.int (4 : Int32), .int (σ16 k0 32)] [] h0k (c_RM_broken h0k (4 : Int32) (σ16 k0 32) σ16) rfl rfl (by decide) (Nat.le_of_ble_eq_true rfl) d_RM_isNote_34 ?_
    refine j_genIMz (z_RM_broken _ _ _ _) (fun q19 q19_z => ?_)
    exact j_iretz C (fun ρ h => leaf_eq h) (nz01 q19_z) d_RM_isNote_37
  · refine j_icmp_eq (tgt := 28) C d_RM_isNote_19 (by decide) (fun c20 => ?_) (fun c20 => ?_)
    · exact H18 σ
    · refine j_iload_n C d_RM_isNote_22 1 rfl ?_
      refine j_bipush (v := (30 : Int32)) C d_RM_isNote_23 (by decide) ?_
      refine j_icmp_le (tgt := 38) C d_RM_isNote_25 (by decide) (fun c21 => ?_) (fun c21 => ?_)
      · refine j_aload_n C d_RM_isNote_38 0 rfl ?_
        refine j_getR C h0k fl_RM_65 rfl d_RM_isNote_39 ?_
        refine j_aload_n C d_RM_isNote_42 0 rfl ?_
        refine j_getI C h0k fl_RM_233 rfl d_RM_isNote_43 ?_
        refine j_aload_n C d_RM_isNote_46 0 rfl ?_
        refine j_getR C h0k fl_RM_32 rfl d_RM_isNote_47 ?_
        refine j_aload_n C d_RM_isNote_50 0 rfl ?_
        refine j_getI C h0k fl_RM_216 rfl d_RM_isNote_51 ?_
        refine j_iconst (v := (1 : Int32)) C d_RM_isNote_54 (by decide) ?_
        refine j_iadd C d_RM_isNote_55 ?_
        refine j_need rfl (fun g22 => ?_)
        refine j_iald C (tg_11_18 _ h0k) (inb_in g22) d_RM_isNote_56 ?_
        refine j_sipush (v := (254 : Int32)) C d_RM_isNote_57 (by decide) ?_
        refine j_join1 83 (fun _ => [(0, .ref (fad F k0)), (1, .int (r2 - (2 : Int32)))]) (fun y104 => [.int y104, .int (σ k0 41), .ref (fad F (wtg k0 47))]) (fun y104 => ?_) (fun K105 H106 => ?_)
        · refine j_need rfl (fun g107 => ?_)
          refine j_iast C (tg_11_47 _ h0k) (inb_in g107) d_RM_isNote_83 (fun σ108 => ?_)
          refine j_aload_n C d_RM_isNote_84 0 rfl ?_
          refine j_getR C h0k fl_RM_68 rfl d_RM_isNote_85 ?_
          refine j_aload_n C d_RM_isNote_88 0 rfl ?_
          refine j_getI C h0k fl_RM_233 rfl d_RM_isNote_89 ?_
          refine j_iload_n C d_RM_isNote_92 1 rfl ?_
          refine j_need rfl (fun g109 => ?_)
          refine j_iast C (tg_11_48 _ h0k) (inb_in g109) d_RM_isNote_93 (fun σ110 => ?_)
          refine j_iconst (v := (0 : Int32)) C d_RM_isNote_94 (by decide) ?_
          refine j_istore_n (lv9 := [(0, .ref (fad F k0)), (1, .int (r2 - (2 : Int32))), (2, .int (0 : Int32))]) C d_RM_isNote_95 rfl rfl (by decide) ?_
          refine j_loop (wL_RM_isNote_96 C rfl k0 h0k (r2 - (2 : Int32)) (fun q115 => j_some ?_) 9999 (0 : Int32) σ110)
          refine j_aload_n C d_RM_isNote_134 0 rfl ?_
          refine j_dup C d_RM_isNote_135 rfl ?_
          refine j_getI C h0k fl_RM_233 rfl d_RM_isNote_136 ?_
          refine j_iconst (v := (1 : Int32)) C d_RM_isNote_139 (by decide) ?_
          refine j_iadd C d_RM_isNote_140 ?_
          refine j_put C h0k fl_RM_233 fw_11_41 rfl rfl rfl d_RM_isNote_141 (fun σ116 => ?_)
          refine j_iconst (v := (1 : Int32)) C d_RM_isNote_144 (by decide) ?_
          exact j_iretz C (fun ρ h => leaf_eq h) (nz01 (Or.inr rfl)) d_RM_isNote_145
        · refine j_icmp_ne (tgt := 68) C d_RM_isNote_60 (by decide) (fun c117 => ?_) (fun c117 => ?_)
          · refine j_aload_n C d_RM_isNote_68 0 rfl ?_
            refine j_getR C h0k fl_RM_32 rfl d_RM_isNote_69 ?_
            refine j_aload_n C d_RM_isNote_72 0 rfl ?_
            refine j_getI C h0k fl_RM_216 rfl d_RM_isNote_73 ?_
            refine j_iconst (v := (1 : Int32)) C d_RM_isNote_76 (by decide) ?_
            refine j_iadd C d_RM_isNote_77 ?_
            refine j_need rfl (fun g118 => ?_)
            refine j_iald C (tg_11_18 _ h0k) (inb_in g118) d_RM_isNote_78 ?_
            refine j_sipush (v := (224 : Int32)) C d_RM_isNote_79 (by decide) ?_
            refine j_isub C d_RM_isNote_82 ?_
            exact H106 ((σ (wtg k0 18) ((σ k0 32) + (1 : Int32)).toNatClampNeg) - (224 : Int32))
          · refine j_bipush (v := (16 : Int32)) C d_RM_isNote_63 (by decide) ?_
            refine j_goto (tgt := 83) C d_RM_isNote_65 (by decide) ?_
            exact H106 (16 : Int32)
      · exact H18 σ
theorem c_RM_isNote {l : Launch} {D : va_G} {G : GC} {ad : Nat → Nat} {k0 : Nat} (h0k : Is k0 11) (σ : Mem) {q : Int32 × Mem} (hq : f_RM_isNote k0 σ = some q) : Ctr l D G ad ⟨"LineFramesModel", "isNote", "()Z"⟩ prog_13_method_39_code 3 (some .boolean) 1 22 [.ref (ad k0)] σ (.inl (some (.int q.1)), q.2) := ctr_J (cv := (cvO cvIM)) (E := f_RM_isNote k0 σ) (by decide +kernel) (Nat.le_of_ble_eq_true rfl) (by rw [hq]; rfl) (fun F h C => by subst h; exact w_RM_isNote C h0k σ)
/-! LineFramesModel hear ()I -/
theorem d_RM_hear_0 : decode prog_13_method_44_code 0 = .ok (.aload_n 0, 1) := by decide +kernel
theorem d_RM_hear_1 : decode prog_13_method_44_code 1 = .ok (.getfield 260, 3) := by decide +kernel
theorem d_RM_hear_4 : decode prog_13_method_44_code 4 = .ok (.ifCond .ne 128, 3) := by decide +kernel
theorem d_RM_hear_7 : decode prog_13_method_44_code 7 = .ok (.aload_n 0, 1) := by decide +kernel
theorem d_RM_hear_8 : decode prog_13_method_44_code 8 = .ok (.getfield 263, 3) := by decide +kernel
theorem d_RM_hear_11 : decode prog_13_method_44_code 11 = .ok (.aload_n 0, 1) := by decide +kernel
theorem d_RM_hear_12 : decode prog_13_method_44_code 12 = .ok (.getfield 207, 3) := by decide +kernel
theorem d_RM_hear_15 : decode prog_13_method_44_code 15 = .ok (.if_icmp .lt 15, 3) := by decide +kernel
theorem d_RM_hear_18 : decode prog_13_method_44_code 18 = .ok (.aload_n 0, 1) := by decide +kernel
theorem d_RM_hear_19 : decode prog_13_method_44_code 19 = .ok (.iconst 1, 1) := by decide +kernel
theorem d_RM_hear_20 : decode prog_13_method_44_code 20 = .ok (.aload_n 0, 1) := by decide +kernel
theorem d_RM_hear_21 : decode prog_13_method_44_code 21 = .ok (.getfield 207, 3) := by decide +kernel
theorem d_RM_hear_24 : decode prog_13_method_44_code 24 = .ok (.invokevirtual 219, 3) := by decide +kernel
theorem d_RM_hear_27 : decode prog_13_method_44_code 27 = .ok (.istore_n 1, 1) := by decide +kernel
theorem d_RM_hear_28 : decode prog_13_method_44_code 28 = .ok (.iconst 0, 1) := by decide +kernel
theorem d_RM_hear_29 : decode prog_13_method_44_code 29 = .ok (.ireturn, 1) := by decide +kernel
theorem d_RM_hear_30 : decode prog_13_method_44_code 30 = .ok (.aload_n 0, 1) := by decide +kernel
theorem d_RM_hear_31 : decode prog_13_method_44_code 31 = .ok (.getfield 266, 3) := by decide +kernel
theorem d_RM_hear_34 : decode prog_13_method_44_code 34 = .ok (.ifCond .eq 30, 3) := by decide +kernel
theorem d_RM_hear_37 : decode prog_13_method_44_code 37 = .ok (.aload_n 0, 1) := by decide +kernel
theorem d_RM_hear_38 : decode prog_13_method_44_code 38 = .ok (.getfield 32, 3) := by decide +kernel
theorem d_RM_hear_41 : decode prog_13_method_44_code 41 = .ok (.aload_n 0, 1) := by decide +kernel
theorem d_RM_hear_42 : decode prog_13_method_44_code 42 = .ok (.getfield 263, 3) := by decide +kernel
theorem d_RM_hear_45 : decode prog_13_method_44_code 45 = .ok (.iaload, 1) := by decide +kernel
theorem d_RM_hear_46 : decode prog_13_method_44_code 46 = .ok (.bipush 127, 2) := by decide +kernel
theorem d_RM_hear_48 : decode prog_13_method_44_code 48 = .ok (.if_icmp .le 16, 3) := by decide +kernel
theorem d_RM_hear_51 : decode prog_13_method_44_code 51 = .ok (.aload_n 0, 1) := by decide +kernel
theorem d_RM_hear_52 : decode prog_13_method_44_code 52 = .ok (.bipush 7, 2) := by decide +kernel
theorem d_RM_hear_54 : decode prog_13_method_44_code 54 = .ok (.aload_n 0, 1) := by decide +kernel
theorem d_RM_hear_55 : decode prog_13_method_44_code 55 = .ok (.getfield 263, 3) := by decide +kernel
theorem d_RM_hear_58 : decode prog_13_method_44_code 58 = .ok (.invokevirtual 219, 3) := by decide +kernel
theorem d_RM_hear_61 : decode prog_13_method_44_code 61 = .ok (.istore_n 1, 1) := by decide +kernel
theorem d_RM_hear_62 : decode prog_13_method_44_code 62 = .ok (.iconst 0, 1) := by decide +kernel
theorem d_RM_hear_63 : decode prog_13_method_44_code 63 = .ok (.ireturn, 1) := by decide +kernel
theorem d_RM_hear_64 : decode prog_13_method_44_code 64 = .ok (.aload_n 0, 1) := by decide +kernel
theorem d_RM_hear_65 : decode prog_13_method_44_code 65 = .ok (.aload_n 0, 1) := by decide +kernel
theorem d_RM_hear_66 : decode prog_13_method_44_code 66 = .ok (.getfield 32, 3) := by decide +kernel
theorem d_RM_hear_69 : decode prog_13_method_44_code 69 = .ok (.aload_n 0, 1) := by decide +kernel
theorem d_RM_hear_70 : decode prog_13_method_44_code 70 = .ok (.getfield 263, 3) := by decide +kernel
theorem d_RM_hear_73 : decode prog_13_method_44_code 73 = .ok (.iaload, 1) := by decide +kernel
theorem d_RM_hear_74 : decode prog_13_method_44_code 74 = .ok (.putfield 269, 3) := by decide +kernel
theorem d_RM_hear_77 : decode prog_13_method_44_code 77 = .ok (.aload_n 0, 1) := by decide +kernel
theorem d_RM_hear_78 : decode prog_13_method_44_code 78 = .ok (.aload_n 0, 1) := by decide +kernel
theorem d_RM_hear_79 : decode prog_13_method_44_code 79 = .ok (.getfield 266, 3) := by decide +kernel
theorem d_RM_hear_82 : decode prog_13_method_44_code 82 = .ok (.ifCond .eq 8, 3) := by decide +kernel
theorem d_RM_hear_85 : decode prog_13_method_44_code 85 = .ok (.bipush 7, 2) := by decide +kernel
theorem d_RM_hear_87 : decode prog_13_method_44_code 87 = .ok (.goto 5, 3) := by decide +kernel
theorem d_RM_hear_90 : decode prog_13_method_44_code 90 = .ok (.bipush 8, 2) := by decide +kernel
theorem d_RM_hear_92 : decode prog_13_method_44_code 92 = .ok (.putfield 260, 3) := by decide +kernel
theorem d_RM_hear_95 : decode prog_13_method_44_code 95 = .ok (.aload_n 0, 1) := by decide +kernel
theorem d_RM_hear_96 : decode prog_13_method_44_code 96 = .ok (.aload_n 0, 1) := by decide +kernel
theorem d_RM_hear_97 : decode prog_13_method_44_code 97 = .ok (.getfield 269, 3) := by decide +kernel
theorem d_RM_hear_100 : decode prog_13_method_44_code 100 = .ok (.sipush 255, 3) := by decide +kernel
theorem d_RM_hear_103 : decode prog_13_method_44_code 103 = .ok (.if_icmp .ne 7, 3) := by decide +kernel
theorem d_RM_hear_106 : decode prog_13_method_44_code 106 = .ok (.iconst 1, 1) := by decide +kernel
theorem d_RM_hear_107 : decode prog_13_method_44_code 107 = .ok (.goto 4, 3) := by decide +kernel
theorem d_RM_hear_110 : decode prog_13_method_44_code 110 = .ok (.iconst 0, 1) := by decide +kernel
theorem d_RM_hear_111 : decode prog_13_method_44_code 111 = .ok (.putfield 266, 3) := by decide +kernel
theorem d_RM_hear_114 : decode prog_13_method_44_code 114 = .ok (.aload_n 0, 1) := by decide +kernel
theorem d_RM_hear_115 : decode prog_13_method_44_code 115 = .ok (.aload_n 0, 1) := by decide +kernel
theorem d_RM_hear_116 : decode prog_13_method_44_code 116 = .ok (.getfield 263, 3) := by decide +kernel
theorem d_RM_hear_119 : decode prog_13_method_44_code 119 = .ok (.putfield 272, 3) := by decide +kernel
theorem d_RM_hear_122 : decode prog_13_method_44_code 122 = .ok (.aload_n 0, 1) := by decide +kernel
theorem d_RM_hear_123 : decode prog_13_method_44_code 123 = .ok (.dup, 1) := by decide +kernel
theorem d_RM_hear_124 : decode prog_13_method_44_code 124 = .ok (.getfield 263, 3) := by decide +kernel
theorem d_RM_hear_127 : decode prog_13_method_44_code 127 = .ok (.iconst 1, 1) := by decide +kernel
theorem d_RM_hear_128 : decode prog_13_method_44_code 128 = .ok (.iadd, 1) := by decide +kernel
theorem d_RM_hear_129 : decode prog_13_method_44_code 129 = .ok (.putfield 263, 3) := by decide +kernel
theorem d_RM_hear_132 : decode prog_13_method_44_code 132 = .ok (.aload_n 0, 1) := by decide +kernel
theorem d_RM_hear_133 : decode prog_13_method_44_code 133 = .ok (.dup, 1) := by decide +kernel
theorem d_RM_hear_134 : decode prog_13_method_44_code 134 = .ok (.getfield 260, 3) := by decide +kernel
theorem d_RM_hear_137 : decode prog_13_method_44_code 137 = .ok (.iconst 1, 1) := by decide +kernel
theorem d_RM_hear_138 : decode prog_13_method_44_code 138 = .ok (.isub, 1) := by decide +kernel
theorem d_RM_hear_139 : decode prog_13_method_44_code 139 = .ok (.putfield 260, 3) := by decide +kernel
theorem d_RM_hear_142 : decode prog_13_method_44_code 142 = .ok (.aload_n 0, 1) := by decide +kernel
theorem d_RM_hear_143 : decode prog_13_method_44_code 143 = .ok (.getfield 269, 3) := by decide +kernel
theorem d_RM_hear_146 : decode prog_13_method_44_code 146 = .ok (.aload_n 0, 1) := by decide +kernel
theorem d_RM_hear_147 : decode prog_13_method_44_code 147 = .ok (.getfield 260, 3) := by decide +kernel
theorem d_RM_hear_150 : decode prog_13_method_44_code 150 = .ok (.ishr, 1) := by decide +kernel
theorem d_RM_hear_151 : decode prog_13_method_44_code 151 = .ok (.iconst 1, 1) := by decide +kernel
theorem d_RM_hear_152 : decode prog_13_method_44_code 152 = .ok (.iand, 1) := by decide +kernel
theorem d_RM_hear_153 : decode prog_13_method_44_code 153 = .ok (.ireturn, 1) := by decide +kernel
def f_RM_hear (k0 : Nat) (σ : Mem) : Option (Int32 × Mem) :=
  lt (fun  (σ30 : Mem) => 
  lt (mput σ30 k0 62 ((σ30 k0 62) - (1 : Int32))) fun σ33 =>
  some ((((σ33 k0 61) >>> ((σ33 k0 62) &&& 31)) &&& (1 : Int32)), σ33)) fun K31 =>
  if (σ k0 62) = 0 then
  if (σ k0 60) < (σ k0 19) then
  lt (fun  (σ105 : Mem) => 
  if inb (σ105 k0 60) (wln (wtg k0 18)) = true then
  lt (mput σ105 k0 61 (σ105 (wtg k0 18) (σ105 k0 60).toNatClampNeg)) fun σ109 =>
  lt (mput σ109 k0 62 (if (σ109 k0 64) = 0 then (8 : Int32) else (7 : Int32))) fun σ112 =>
  lt (mput σ112 k0 64 (if (σ112 k0 61) = (255 : Int32) then (1 : Int32) else (0 : Int32))) fun σ115 =>
  lt (mput σ115 k0 63 (σ115 k0 60)) fun σ116 =>
  lt (mput σ116 k0 60 ((σ116 k0 60) + (1 : Int32))) fun σ117 =>
  K31 σ117
  else none) fun K106 =>
  if (σ k0 64) = 0 then
  K106 σ
  else
  if inb (σ k0 60) (wln (wtg k0 18)) = true then
  if (σ (wtg k0 18) (σ k0 60).toNatClampNeg) ≤ (127 : Int32) then
  K106 σ
  else
  lt (f_RM_broken k0 (7 : Int32) (σ k0 60) σ) fun q121 =>
  some ((0 : Int32), q121.2)
  else none
  else
  lt (f_RM_broken k0 (1 : Int32) (σ k0 19) σ) fun q122 =>
  some ((0 : Int32), q122.2)
  else
  K31 σ
set_option maxHeartbeats 4000000 in
set_option maxRecDepth 100000 in
theorem w_RM_hear {F : Fx} (C : Ctx F prog_13_method_44_code 2 "LineFramesModel" (some .int) 1 22) {k0 : Nat} (h0k : Is k0 11) (σ : Mem) : J F 2 (cvO cvIM) (f_RM_hear k0 σ) σ 0 [(0, .ref (fad F k0))] [] := by
  unfold f_RM_hear
  refine j_aload_n C d_RM_hear_0 0 rfl ?_
  refine j_getI C h0k fl_RM_260 rfl d_RM_hear_1 ?_
  refine j_join0m 132 (fun _ => [(0, .ref (fad F k0))]) (fun _ => []) (fun σ30 => ?_) (fun K31 H32 => ?_)
  · refine j_aload_n C d_RM_hear_132 0 rfl ?_
    refine j_dup C d_RM_hear_133 rfl ?_
    refine j_getI C h0k fl_RM_260 rfl d_RM_hear_134 ?_
    refine j_iconst (v := (1 : Int32)) C d_RM_hear_137 (by decide) ?_
    refine j_isub C d_RM_hear_138 ?_
    refine j_put C h0k fl_RM_260 fw_11_62 rfl rfl rfl d_RM_hear_139 (fun σ33 => ?_)
    refine j_aload_n C d_RM_hear_142 0 rfl ?_
    refine j_getI C h0k fl_RM_269 rfl d_RM_hear_143 ?_
    refine j_aload_n C d_RM_hear_146 0 rfl ?_
    refine j_getI C h0k fl_RM_260 rfl d_RM_hear_147 ?_
    refine j_ishr C d_RM_hear_150 ?_
    refine j_iconst (v := (1 : Int32)) C d_RM_hear_151 (by decide) ?_
    refine j_iand C d_RM_hear_152 ?_
    exact j_ireti C (fun ρ h => leaf_eq h) d_RM_hear_153
  · refine j_if_ne (tgt := 132) C d_RM_hear_4 (by decide) (fun c34 => ?_) (fun c34 => ?_)
    · exact H32 σ
    · refine j_aload_n C d_RM_hear_7 0 rfl ?_
      refine j_getI C h0k fl_RM_263 rfl d_RM_hear_8 ?_
      refine j_aload_n C d_RM_hear_11 0 rfl ?_
      refine j_getI C h0k fl_RM_207 rfl d_RM_hear_12 ?_
      refine j_icmp_lt (tgt := 30) C d_RM_hear_15 (by decide) (fun c35 => ?_) (fun c35 => ?_)
      · refine j_aload_n C d_RM_hear_30 0 rfl ?_
        refine j_getI C h0k fl_RM_266 rfl d_RM_hear_31 ?_
        refine j_join0m 64 (fun _ => [(0, .ref (fad F k0))]) (fun _ => []) (fun σ105 => ?_) (fun K106 H107 => ?_)
        · refine j_aload_n C d_RM_hear_64 0 rfl ?_
          refine j_aload_n C d_RM_hear_65 0 rfl ?_
          refine j_getR C h0k fl_RM_32 rfl d_RM_hear_66 ?_
          refine j_aload_n C d_RM_hear_69 0 rfl ?_
          refine j_getI C h0k fl_RM_263 rfl d_RM_hear_70 ?_
          refine j_need rfl (fun g108 => ?_)
          refine j_iald C (tg_11_18 _ h0k) (inb_in g108) d_RM_hear_73 ?_
          refine j_put C h0k fl_RM_269 fw_11_61 rfl rfl rfl d_RM_hear_74 (fun σ109 => ?_)
          refine j_aload_n C d_RM_hear_77 0 rfl ?_
          refine j_aload_n C d_RM_hear_78 0 rfl ?_
          refine j_getI C h0k fl_RM_266 rfl d_RM_hear_79 ?_
          refine d_if_eq (a := (8 : Int32)) (b := (7 : Int32)) (jp := 92) (tgt := 90) C d_RM_hear_82 (by decide) (fun c110 k111 => ?_) (fun c110 k111 => ?_) ?_
          · refine j_bipush (v := (8 : Int32)) C d_RM_hear_90 (by decide) ?_
            exact k111
          · refine j_bipush (v := (7 : Int32)) C d_RM_hear_85 (by decide) ?_
            refine j_goto (tgt := 92) C d_RM_hear_87 (by decide) ?_
            exact k111
          refine j_put C h0k fl_RM_260 fw_11_62 rfl rfl rfl d_RM_hear_92 (fun σ112 => ?_)
          refine j_aload_n C d_RM_hear_95 0 rfl ?_
          refine j_aload_n C d_RM_hear_96 0 rfl ?_
          refine j_getI C h0k fl_RM_269 rfl d_RM_hear_97 ?_
          refine j_sipush (v := (255 : Int32)) C d_RM_hear_100 (by decide) ?_
          refine d_icmp_ne (a := (1 : Int32)) (b := (0 : Int32)) (jp := 111) (tgt := 110) C d_RM_hear_103 (by decide) (fun c113 k114 => ?_) (fun c113 k114 => ?_) ?_
          · refine j_iconst (v := (0 : Int32)) C d_RM_hear_110 (by decide) ?_
            exact k114
          · refine j_iconst (v := (1 : Int32)) C d_RM_hear_106 (by decide) ?_
            refine j_goto (tgt := 111) C d_RM_hear_107 (by decide) ?_
            exact k114
          refine j_put C h0k fl_RM_266 fw_11_64 rfl (nz01 (ite01 (Or.inr rfl) (Or.inl rfl))) (fz01 (ite01 (Or.inr rfl) (Or.inl rfl))) d_RM_hear_111 (fun σ115 => ?_)
          refine j_aload_n C d_RM_hear_114 0 rfl ?_
          refine j_aload_n C d_RM_hear_115 0 rfl ?_
          refine j_getI C h0k fl_RM_263 rfl d_RM_hear_116 ?_
          refine j_put C h0k fl_RM_272 fw_11_63 rfl rfl rfl d_RM_hear_119 (fun σ116 => ?_)
          refine j_aload_n C d_RM_hear_122 0 rfl ?_
          refine j_dup C d_RM_hear_123 rfl ?_
          refine j_getI C h0k fl_RM_263 rfl d_RM_hear_124 ?_
          refine j_iconst (v := (1 : Int32)) C d_RM_hear_127 (by decide) ?_
          refine j_iadd C d_RM_hear_128 ?_
          refine j_put C h0k fl_RM_263 fw_11_60 rfl rfl rfl d_RM_hear_129 (fun σ117 => ?_)
          exact H32 σ117
        · refine j_if_eq (tgt := 64) C d_RM_hear_34 (by decide) (fun c118 => ?_) (fun c118 => ?_)
          · exact H107 σ
          · refine j_aload_n C d_RM_hear_37 0 rfl ?_
            refine j_getR C h0k fl_RM_32 rfl d_RM_hear_38 ?_
            refine j_aload_n C d_RM_hear_41 0 rfl ?_
            refine j_getI C h0k fl_RM_263 rfl d_RM_hear_42 ?_
            refine j_need rfl (fun g119 => ?_)
            refine j_iald C (tg_11_18 _ h0k) (inb_in g119) d_RM_hear_45 ?_
            refine j_bipush (v := (127 : Int32)) C d_RM_hear_46 (by decide) ?_
            refine j_icmp_le (tgt := 64) C d_RM_hear_48 (by decide) (fun c120 => ?_) (fun c120 => ?_)
            · exact H107 σ
            · refine j_aload_n C d_RM_hear_51 0 rfl ?_
              refine j_bipush (v := (7 : Int32)) C d_RM_hear_52 (by decide) ?_
              refine j_aload_n C d_RM_hear_54 0 rfl ?_
              refine j_getI C h0k fl_RM_263 rfl d_RM_hear_55 ?_
              refine j_callVi C mv_RM_219 [.int (7 : Int32), .int (σ k0 60)] [] h0k (c_RM_broken h0k (7 : Int32) (σ k0 60) σ) rfl rfl (by decide) (Nat.le_of_ble_eq_true rfl) d_RM_hear_58 ?_
              refine j_genIMz (z_RM_broken _ _ _ _) (fun q121 q121_z => ?_)
              refine j_istore_n (lv9 := [(0, .ref (fad F k0)), (1, .int q121.1)]) C d_RM_hear_61 rfl rfl (by decide) ?_
              refine j_iconst (v := (0 : Int32)) C d_RM_hear_62 (by decide) ?_
              exact j_ireti C (fun ρ h => leaf_eq h) d_RM_hear_63
      · refine j_aload_n C d_RM_hear_18 0 rfl ?_
        refine j_iconst (v := (1 : Int32)) C d_RM_hear_19 (by decide) ?_
        refine j_aload_n C d_RM_hear_20 0 rfl ?_
        refine j_getI C h0k fl_RM_207 rfl d_RM_hear_21 ?_
        refine j_callVi C mv_RM_219 [.int (1 : Int32), .int (σ k0 19)] [] h0k (c_RM_broken h0k (1 : Int32) (σ k0 19) σ) rfl rfl (by decide) (Nat.le_of_ble_eq_true rfl) d_RM_hear_24 ?_
        refine j_genIMz (z_RM_broken _ _ _ _) (fun q122 q122_z => ?_)
        refine j_istore_n (lv9 := [(0, .ref (fad F k0)), (1, .int q122.1)]) C d_RM_hear_27 rfl rfl (by decide) ?_
        refine j_iconst (v := (0 : Int32)) C d_RM_hear_28 (by decide) ?_
        exact j_ireti C (fun ρ h => leaf_eq h) d_RM_hear_29
theorem c_RM_hear {l : Launch} {D : va_G} {G : GC} {ad : Nat → Nat} {k0 : Nat} (h0k : Is k0 11) (σ : Mem) {q : Int32 × Mem} (hq : f_RM_hear k0 σ = some q) : Ctr l D G ad ⟨"LineFramesModel", "hear", "()I"⟩ prog_13_method_44_code 2 (some .int) 1 22 [.ref (ad k0)] σ (.inl (some (.int q.1)), q.2) := ctr_J (cv := (cvO cvIM)) (E := f_RM_hear k0 σ) (by decide +kernel) (Nat.le_of_ble_eq_true rfl) (by rw [hq]; rfl) (fun F h C => by subst h; exact w_RM_hear C h0k σ)
/-! LineFramesModel hearBits (I)I -/
theorem d_RM_hearBits_0 : decode prog_13_method_45_code 0 = .ok (.iconst 0, 1) := by decide +kernel
theorem d_RM_hearBits_1 : decode prog_13_method_45_code 1 = .ok (.istore_n 2, 1) := by decide +kernel
theorem d_RM_hearBits_2 : decode prog_13_method_45_code 2 = .ok (.iconst 0, 1) := by decide +kernel
theorem d_RM_hearBits_3 : decode prog_13_method_45_code 3 = .ok (.istore_n 3, 1) := by decide +kernel
theorem d_RM_hearBits_4 : decode prog_13_method_45_code 4 = .ok (.iload_n 3, 1) := by decide +kernel
theorem d_RM_hearBits_5 : decode prog_13_method_45_code 5 = .ok (.iload_n 1, 1) := by decide +kernel
theorem d_RM_hearBits_6 : decode prog_13_method_45_code 6 = .ok (.if_icmp .ge 25, 3) := by decide +kernel
theorem d_RM_hearBits_9 : decode prog_13_method_45_code 9 = .ok (.aload_n 0, 1) := by decide +kernel
theorem d_RM_hearBits_10 : decode prog_13_method_45_code 10 = .ok (.getfield 210, 3) := by decide +kernel
theorem d_RM_hearBits_13 : decode prog_13_method_45_code 13 = .ok (.ifCond .ne 18, 3) := by decide +kernel
theorem d_RM_hearBits_16 : decode prog_13_method_45_code 16 = .ok (.iconst 2, 1) := by decide +kernel
theorem d_RM_hearBits_17 : decode prog_13_method_45_code 17 = .ok (.iload_n 2, 1) := by decide +kernel
theorem d_RM_hearBits_18 : decode prog_13_method_45_code 18 = .ok (.imul, 1) := by decide +kernel
theorem d_RM_hearBits_19 : decode prog_13_method_45_code 19 = .ok (.aload_n 0, 1) := by decide +kernel
theorem d_RM_hearBits_20 : decode prog_13_method_45_code 20 = .ok (.invokevirtual 275, 3) := by decide +kernel
theorem d_RM_hearBits_23 : decode prog_13_method_45_code 23 = .ok (.iadd, 1) := by decide +kernel
theorem d_RM_hearBits_24 : decode prog_13_method_45_code 24 = .ok (.istore_n 2, 1) := by decide +kernel
theorem d_RM_hearBits_25 : decode prog_13_method_45_code 25 = .ok (.iinc 3 1, 3) := by decide +kernel
theorem d_RM_hearBits_28 : decode prog_13_method_45_code 28 = .ok (.goto (-24), 3) := by decide +kernel
theorem d_RM_hearBits_31 : decode prog_13_method_45_code 31 = .ok (.iload_n 2, 1) := by decide +kernel
theorem d_RM_hearBits_32 : decode prog_13_method_45_code 32 = .ok (.ireturn, 1) := by decide +kernel
def L_RM_hearBits_4 (r0 : Nat) (b1 : Int32) : Nat → Int32 → Int32 → Mem →  Option (Int32 × Int32 × Mem)
  | 0, _, _, _ => none
  | n + 1, a2, a3, σ =>
  if b1 ≤ a3 then
  some (a2, a3, σ)
  else
  if (σ r0 28) = 0 then
  (f_RM_hear r0 σ).bind fun q4 =>
  L_RM_hearBits_4 r0 b1 n (((2 : Int32) * a2) + q4.1) (a3 + (1 : Int32)) q4.2
  else
  some (a2, a3, σ)
def f_RM_hearBits (k0 : Nat) (x1 : Int32) (σ : Mem) : Option (Int32 × Mem) :=
  (L_RM_hearBits_4 k0 x1 9999 (0 : Int32) (0 : Int32) σ).bind fun q5 =>
  some (q5.1, q5.2.2)
set_option maxHeartbeats 4000000 in
set_option maxRecDepth 100000 in
theorem wL_RM_hearBits_4 {F : Fx} (C : Ctx F prog_13_method_45_code 4 "LineFramesModel" (some .int) 2 43) {cv : Option (Int32 × Int32 × Mem) → Option Rs} (h0 : cv none = none) (r0 : Nat) (hr0 : Is r0 11) (b1 : Int32) (hex : ∀ q : Int32 × Int32 × Mem, J F 4 cv (some q) q.2.2 31 [(0, .ref (fad F r0)), (1, .int b1), (2, .int q.1), (3, .int q.2.1)] []) : ∀ (n : Nat) (a2 : Int32) (a3 : Int32) (σ : Mem), J F 4 cv (L_RM_hearBits_4 r0 b1 n a2 a3 σ) σ 4 [(0, .ref (fad F r0)), (1, .int b1), (2, .int a2), (3, .int a3)] [] := by
  intro n
  induction n with
  | zero => intro a2 a3 σ hE; rw [L_RM_hearBits_4, h0] at hE; cases hE
  | succ n ih =>
    intro a2 a3 σ
    rw [L_RM_hearBits_4]
    refine j_iload_n C d_RM_hearBits_4 3 rfl ?_
    refine j_iload_n C d_RM_hearBits_5 1 rfl ?_
    refine j_icmp_ge (tgt := 31) C d_RM_hearBits_6 (by decide) (fun c1 => ?_) (fun c1 => ?_)
    · exact hex (a2, a3, σ)
    · refine j_aload_n C d_RM_hearBits_9 0 rfl ?_
      refine j_getI C hr0 fl_RM_210 rfl d_RM_hearBits_10 ?_
      refine j_if_ne (tgt := 31) C d_RM_hearBits_13 (by decide) (fun c2 => ?_) (fun c2 => ?_)
      · exact hex (a2, a3, σ)
      · refine j_iconst (v := (2 : Int32)) C d_RM_hearBits_16 (by decide) ?_
        refine j_iload_n C d_RM_hearBits_17 2 rfl ?_
        refine j_imul C d_RM_hearBits_18 ?_
        refine j_aload_n C d_RM_hearBits_19 0 rfl ?_
        refine j_bind (by exact h0) (fun q4 e3 => ?_)
        refine j_callVi C mv_RM_275 [] [.int ((2 : Int32) * a2)] hr0 (c_RM_hear hr0 σ e3) rfl rfl (by decide) (Nat.le_of_ble_eq_true rfl) d_RM_hearBits_20 ?_
        refine j_iadd C d_RM_hearBits_23 ?_
        refine j_istore_n (lv9 := [(0, .ref (fad F r0)), (1, .int b1), (2, .int (((2 : Int32) * a2) + q4.1)), (3, .int a3)]) C d_RM_hearBits_24 rfl rfl (by decide) ?_
        refine j_iinc (v := (a3 + (1 : Int32))) (lv9 := [(0, .ref (fad F r0)), (1, .int b1), (2, .int (((2 : Int32) * a2) + q4.1)), (3, .int (a3 + (1 : Int32)))]) C d_RM_hearBits_25 3 rfl rfl rfl rfl (by decide) ?_
        refine j_goto (tgt := 4) C d_RM_hearBits_28 (by decide) ?_
        exact ih (((2 : Int32) * a2) + q4.1) (a3 + (1 : Int32)) q4.2
set_option maxHeartbeats 4000000 in
set_option maxRecDepth 100000 in
theorem w_RM_hearBits {F : Fx} (C : Ctx F prog_13_method_45_code 4 "LineFramesModel" (some .int) 2 43) {k0 : Nat} (h0k : Is k0 11) (x1 : Int32) (σ : Mem) : J F 4 (cvO cvIM) (f_RM_hearBits k0 x1 σ) σ 0 [(0, .ref (fad F k0)), (1, .int x1)] [] := by
  unfold f_RM_hearBits
  refine j_iconst (v := (0 : Int32)) C d_RM_hearBits_0 (by decide) ?_
  refine j_istore_n (lv9 := [(0, .ref (fad F k0)), (1, .int x1), (2, .int (0 : Int32))]) C d_RM_hearBits_1 rfl rfl (by decide) ?_
  refine j_iconst (v := (0 : Int32)) C d_RM_hearBits_2 (by decide) ?_
  refine j_istore_n (lv9 := [(0, .ref (fad F k0)), (1, .int x1), (2, .int (0 : Int32)), (3, .int (0 : Int32))]) C d_RM_hearBits_3 rfl rfl (by decide) ?_
  refine j_loop (wL_RM_hearBits_4 C rfl k0 h0k x1 (fun q5 => j_some ?_) 9999 (0 : Int32) (0 : Int32) σ)
  refine j_iload_n C d_RM_hearBits_31 2 rfl ?_
  exact j_ireti C (fun ρ h => leaf_eq h) d_RM_hearBits_32
theorem c_RM_hearBits {l : Launch} {D : va_G} {G : GC} {ad : Nat → Nat} {k0 : Nat} (h0k : Is k0 11) (x1 : Int32) (σ : Mem) {q : Int32 × Mem} (hq : f_RM_hearBits k0 x1 σ = some q) : Ctr l D G ad ⟨"LineFramesModel", "hearBits", "(I)I"⟩ prog_13_method_45_code 4 (some .int) 2 43 [.ref (ad k0), .int x1] σ (.inl (some (.int q.1)), q.2) := ctr_J (cv := (cvO cvIM)) (E := f_RM_hearBits k0 x1 σ) (by decide +kernel) (Nat.le_of_ble_eq_true rfl) (by rw [hq]; rfl) (fun F h C => by subst h; exact w_RM_hearBits C h0k x1 σ)
