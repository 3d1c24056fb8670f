/-! LineFramesModel isFrame ()Z -/
theorem d_RM_isFrame_0 : decode prog_13_method_40_code 0 = .ok (.aload_n 0, 1) := by decide +kernel
theorem d_RM_isFrame_1 : decode prog_13_method_40_code 1 = .ok (.aload_n 0, 1) := by decide +kernel
theorem d_RM_isFrame_2 : decode prog_13_method_40_code 2 = .ok (.getfield 216, 3) := by decide +kernel
theorem d_RM_isFrame_5 : decode prog_13_method_40_code 5 = .ok (.iconst 2, 1) := by decide +kernel
theorem d_RM_isFrame_6 : decode prog_13_method_40_code 6 = .ok (.iadd, 1) := by decide +kernel
theorem d_RM_isFrame_7 : decode prog_13_method_40_code 7 = .ok (.invokevirtual 230, 3) := by decide +kernel
theorem d_RM_isFrame_10 : decode prog_13_method_40_code 10 = .ok (.istore_n 1, 1) := by decide +kernel
theorem d_RM_isFrame_11 : decode prog_13_method_40_code 11 = .ok (.iload_n 1, 1) := by decide +kernel
theorem d_RM_isFrame_12 : decode prog_13_method_40_code 12 = .ok (.bipush 8, 2) := by decide +kernel
theorem d_RM_isFrame_14 : decode prog_13_method_40_code 14 = .ok (.if_icmp .lt 24, 3) := by decide +kernel
theorem d_RM_isFrame_17 : decode prog_13_method_40_code 17 = .ok (.iload_n 1, 1) := by decide +kernel
theorem d_RM_isFrame_18 : decode prog_13_method_40_code 18 = .ok (.bipush 8, 2) := by decide +kernel
theorem d_RM_isFrame_20 : decode prog_13_method_40_code 20 = .ok (.iconst 3, 1) := by decide +kernel
theorem d_RM_isFrame_21 : decode prog_13_method_40_code 21 = .ok (.aload_n 0, 1) := by decide +kernel
theorem d_RM_isFrame_22 : decode prog_13_method_40_code 22 = .ok (.getfield 32, 3) := by decide +kernel
theorem d_RM_isFrame_25 : decode prog_13_method_40_code 25 = .ok (.aload_n 0, 1) := by decide +kernel
theorem d_RM_isFrame_26 : decode prog_13_method_40_code 26 = .ok (.getfield 216, 3) := by decide +kernel
theorem d_RM_isFrame_29 : decode prog_13_method_40_code 29 = .ok (.bipush 9, 2) := by decide +kernel
theorem d_RM_isFrame_31 : decode prog_13_method_40_code 31 = .ok (.iadd, 1) := by decide +kernel
theorem d_RM_isFrame_32 : decode prog_13_method_40_code 32 = .ok (.iaload, 1) := by decide +kernel
theorem d_RM_isFrame_33 : decode prog_13_method_40_code 33 = .ok (.imul, 1) := by decide +kernel
theorem d_RM_isFrame_34 : decode prog_13_method_40_code 34 = .ok (.iadd, 1) := by decide +kernel
theorem d_RM_isFrame_35 : decode prog_13_method_40_code 35 = .ok (.if_icmp .eq 13, 3) := by decide +kernel
theorem d_RM_isFrame_38 : decode prog_13_method_40_code 38 = .ok (.aload_n 0, 1) := by decide +kernel
theorem d_RM_isFrame_39 : decode prog_13_method_40_code 39 = .ok (.iconst 3, 1) := by decide +kernel
theorem d_RM_isFrame_40 : decode prog_13_method_40_code 40 = .ok (.aload_n 0, 1) := by decide +kernel
theorem d_RM_isFrame_41 : decode prog_13_method_40_code 41 = .ok (.getfield 216, 3) := by decide +kernel
theorem d_RM_isFrame_44 : decode prog_13_method_40_code 44 = .ok (.invokevirtual 219, 3) := by decide +kernel
theorem d_RM_isFrame_47 : decode prog_13_method_40_code 47 = .ok (.ireturn, 1) := by decide +kernel
theorem d_RM_isFrame_48 : decode prog_13_method_40_code 48 = .ok (.aload_n 0, 1) := by decide +kernel
theorem d_RM_isFrame_49 : decode prog_13_method_40_code 49 = .ok (.getfield 32, 3) := by decide +kernel
theorem d_RM_isFrame_52 : decode prog_13_method_40_code 52 = .ok (.aload_n 0, 1) := by decide +kernel
theorem d_RM_isFrame_53 : decode prog_13_method_40_code 53 = .ok (.getfield 216, 3) := by decide +kernel
theorem d_RM_isFrame_56 : decode prog_13_method_40_code 56 = .ok (.iconst 4, 1) := by decide +kernel
theorem d_RM_isFrame_57 : decode prog_13_method_40_code 57 = .ok (.iadd, 1) := by decide +kernel
theorem d_RM_isFrame_58 : decode prog_13_method_40_code 58 = .ok (.iaload, 1) := by decide +kernel
theorem d_RM_isFrame_59 : decode prog_13_method_40_code 59 = .ok (.iconst 2, 1) := by decide +kernel
theorem d_RM_isFrame_60 : decode prog_13_method_40_code 60 = .ok (.bipush 8, 2) := by decide +kernel
theorem d_RM_isFrame_62 : decode prog_13_method_40_code 62 = .ok (.invokestatic 93, 3) := by decide +kernel
theorem d_RM_isFrame_65 : decode prog_13_method_40_code 65 = .ok (.ifCond .eq 66, 3) := by decide +kernel
theorem d_RM_isFrame_68 : decode prog_13_method_40_code 68 = .ok (.aload_n 0, 1) := by decide +kernel
theorem d_RM_isFrame_69 : decode prog_13_method_40_code 69 = .ok (.aload_n 0, 1) := by decide +kernel
theorem d_RM_isFrame_70 : decode prog_13_method_40_code 70 = .ok (.getfield 216, 3) := by decide +kernel
theorem d_RM_isFrame_73 : decode prog_13_method_40_code 73 = .ok (.iconst 5, 1) := by decide +kernel
theorem d_RM_isFrame_74 : decode prog_13_method_40_code 74 = .ok (.iadd, 1) := by decide +kernel
theorem d_RM_isFrame_75 : decode prog_13_method_40_code 75 = .ok (.invokevirtual 230, 3) := by decide +kernel
theorem d_RM_isFrame_78 : decode prog_13_method_40_code 78 = .ok (.iconst 1, 1) := by decide +kernel
theorem d_RM_isFrame_79 : decode prog_13_method_40_code 79 = .ok (.bipush 12, 2) := by decide +kernel
theorem d_RM_isFrame_81 : decode prog_13_method_40_code 81 = .ok (.invokestatic 93, 3) := by decide +kernel
theorem d_RM_isFrame_84 : decode prog_13_method_40_code 84 = .ok (.ifCond .eq 47, 3) := by decide +kernel
theorem d_RM_isFrame_87 : decode prog_13_method_40_code 87 = .ok (.aload_n 0, 1) := by decide +kernel
theorem d_RM_isFrame_88 : decode prog_13_method_40_code 88 = .ok (.aload_n 0, 1) := by decide +kernel
theorem d_RM_isFrame_89 : decode prog_13_method_40_code 89 = .ok (.getfield 216, 3) := by decide +kernel
theorem d_RM_isFrame_92 : decode prog_13_method_40_code 92 = .ok (.bipush 7, 2) := by decide +kernel
theorem d_RM_isFrame_94 : decode prog_13_method_40_code 94 = .ok (.iadd, 1) := by decide +kernel
theorem d_RM_isFrame_95 : decode prog_13_method_40_code 95 = .ok (.invokevirtual 230, 3) := by decide +kernel
theorem d_RM_isFrame_98 : decode prog_13_method_40_code 98 = .ok (.iconst 1, 1) := by decide +kernel
theorem d_RM_isFrame_99 : decode prog_13_method_40_code 99 = .ok (.bipush 12, 2) := by decide +kernel
theorem d_RM_isFrame_101 : decode prog_13_method_40_code 101 = .ok (.invokestatic 93, 3) := by decide +kernel
theorem d_RM_isFrame_104 : decode prog_13_method_40_code 104 = .ok (.ifCond .eq 27, 3) := by decide +kernel
theorem d_RM_isFrame_107 : decode prog_13_method_40_code 107 = .ok (.aload_n 0, 1) := by decide +kernel
theorem d_RM_isFrame_108 : decode prog_13_method_40_code 108 = .ok (.getfield 32, 3) := by decide +kernel
theorem d_RM_isFrame_111 : decode prog_13_method_40_code 111 = .ok (.aload_n 0, 1) := by decide +kernel
theorem d_RM_isFrame_112 : decode prog_13_method_40_code 112 = .ok (.getfield 216, 3) := by decide +kernel
theorem d_RM_isFrame_115 : decode prog_13_method_40_code 115 = .ok (.bipush 9, 2) := by decide +kernel
theorem d_RM_isFrame_117 : decode prog_13_method_40_code 117 = .ok (.iadd, 1) := by decide +kernel
theorem d_RM_isFrame_118 : decode prog_13_method_40_code 118 = .ok (.iaload, 1) := by decide +kernel
theorem d_RM_isFrame_119 : decode prog_13_method_40_code 119 = .ok (.iconst 1, 1) := by decide +kernel
theorem d_RM_isFrame_120 : decode prog_13_method_40_code 120 = .ok (.iconst 4, 1) := by decide +kernel
theorem d_RM_isFrame_121 : decode prog_13_method_40_code 121 = .ok (.invokestatic 93, 3) := by decide +kernel
theorem d_RM_isFrame_124 : decode prog_13_method_40_code 124 = .ok (.ifCond .eq 7, 3) := by decide +kernel
theorem d_RM_isFrame_127 : decode prog_13_method_40_code 127 = .ok (.iconst 1, 1) := by decide +kernel
theorem d_RM_isFrame_128 : decode prog_13_method_40_code 128 = .ok (.goto 4, 3) := by decide +kernel
theorem d_RM_isFrame_131 : decode prog_13_method_40_code 131 = .ok (.iconst 0, 1) := by decide +kernel
theorem d_RM_isFrame_132 : decode prog_13_method_40_code 132 = .ok (.istore_n 2, 1) := by decide +kernel
theorem d_RM_isFrame_133 : decode prog_13_method_40_code 133 = .ok (.iconst 0, 1) := by decide +kernel
theorem d_RM_isFrame_134 : decode prog_13_method_40_code 134 = .ok (.istore_n 3, 1) := by decide +kernel
theorem d_RM_isFrame_135 : decode prog_13_method_40_code 135 = .ok (.iload_n 3, 1) := by decide +kernel
theorem d_RM_isFrame_136 : decode prog_13_method_40_code 136 = .ok (.aload_n 0, 1) := by decide +kernel
theorem d_RM_isFrame_137 : decode prog_13_method_40_code 137 = .ok (.getfield 32, 3) := by decide +kernel
theorem d_RM_isFrame_140 : decode prog_13_method_40_code 140 = .ok (.aload_n 0, 1) := by decide +kernel
theorem d_RM_isFrame_141 : decode prog_13_method_40_code 141 = .ok (.getfield 216, 3) := by decide +kernel
theorem d_RM_isFrame_144 : decode prog_13_method_40_code 144 = .ok (.bipush 9, 2) := by decide +kernel
theorem d_RM_isFrame_146 : decode prog_13_method_40_code 146 = .ok (.iadd, 1) := by decide +kernel
theorem d_RM_isFrame_147 : decode prog_13_method_40_code 147 = .ok (.iaload, 1) := by decide +kernel
theorem d_RM_isFrame_148 : decode prog_13_method_40_code 148 = .ok (.if_icmp .ge 81, 3) := by decide +kernel
theorem d_RM_isFrame_151 : decode prog_13_method_40_code 151 = .ok (.iload_n 2, 1) := by decide +kernel
theorem d_RM_isFrame_152 : decode prog_13_method_40_code 152 = .ok (.ifCond .eq 77, 3) := by decide +kernel
theorem d_RM_isFrame_155 : decode prog_13_method_40_code 155 = .ok (.aload_n 0, 1) := by decide +kernel
theorem d_RM_isFrame_156 : decode prog_13_method_40_code 156 = .ok (.getfield 32, 3) := by decide +kernel
theorem d_RM_isFrame_159 : decode prog_13_method_40_code 159 = .ok (.aload_n 0, 1) := by decide +kernel
theorem d_RM_isFrame_160 : decode prog_13_method_40_code 160 = .ok (.getfield 216, 3) := by decide +kernel
theorem d_RM_isFrame_163 : decode prog_13_method_40_code 163 = .ok (.bipush 10, 2) := by decide +kernel
theorem d_RM_isFrame_165 : decode prog_13_method_40_code 165 = .ok (.iadd, 1) := by decide +kernel
theorem d_RM_isFrame_166 : decode prog_13_method_40_code 166 = .ok (.iconst 3, 1) := by decide +kernel
theorem d_RM_isFrame_167 : decode prog_13_method_40_code 167 = .ok (.iload_n 3, 1) := by decide +kernel
theorem d_RM_isFrame_168 : decode prog_13_method_40_code 168 = .ok (.imul, 1) := by decide +kernel
theorem d_RM_isFrame_169 : decode prog_13_method_40_code 169 = .ok (.iadd, 1) := by decide +kernel
theorem d_RM_isFrame_170 : decode prog_13_method_40_code 170 = .ok (.iaload, 1) := by decide +kernel
theorem d_RM_isFrame_171 : decode prog_13_method_40_code 171 = .ok (.iload_n 3, 1) := by decide +kernel
theorem d_RM_isFrame_172 : decode prog_13_method_40_code 172 = .ok (.iconst 1, 1) := by decide +kernel
theorem d_RM_isFrame_173 : decode prog_13_method_40_code 173 = .ok (.iadd, 1) := by decide +kernel
theorem d_RM_isFrame_174 : decode prog_13_method_40_code 174 = .ok (.if_icmp .ne 47, 3) := by decide +kernel
theorem d_RM_isFrame_177 : decode prog_13_method_40_code 177 = .ok (.aload_n 0, 1) := by decide +kernel
theorem d_RM_isFrame_178 : decode prog_13_method_40_code 178 = .ok (.getfield 32, 3) := by decide +kernel
theorem d_RM_isFrame_181 : decode prog_13_method_40_code 181 = .ok (.aload_n 0, 1) := by decide +kernel
theorem d_RM_isFrame_182 : decode prog_13_method_40_code 182 = .ok (.getfield 216, 3) := by decide +kernel
theorem d_RM_isFrame_185 : decode prog_13_method_40_code 185 = .ok (.bipush 11, 2) := by decide +kernel
theorem d_RM_isFrame_187 : decode prog_13_method_40_code 187 = .ok (.iadd, 1) := by decide +kernel
theorem d_RM_isFrame_188 : decode prog_13_method_40_code 188 = .ok (.iconst 3, 1) := by decide +kernel
theorem d_RM_isFrame_189 : decode prog_13_method_40_code 189 = .ok (.iload_n 3, 1) := by decide +kernel
theorem d_RM_isFrame_190 : decode prog_13_method_40_code 190 = .ok (.imul, 1) := by decide +kernel
theorem d_RM_isFrame_191 : decode prog_13_method_40_code 191 = .ok (.iadd, 1) := by decide +kernel
theorem d_RM_isFrame_192 : decode prog_13_method_40_code 192 = .ok (.iaload, 1) := by decide +kernel
theorem d_RM_isFrame_193 : decode prog_13_method_40_code 193 = .ok (.bipush 17, 2) := by decide +kernel
theorem d_RM_isFrame_195 : decode prog_13_method_40_code 195 = .ok (.if_icmp .ne 26, 3) := by decide +kernel
theorem d_RM_isFrame_198 : decode prog_13_method_40_code 198 = .ok (.aload_n 0, 1) := by decide +kernel
theorem d_RM_isFrame_199 : decode prog_13_method_40_code 199 = .ok (.getfield 32, 3) := by decide +kernel
theorem d_RM_isFrame_202 : decode prog_13_method_40_code 202 = .ok (.aload_n 0, 1) := by decide +kernel
theorem d_RM_isFrame_203 : decode prog_13_method_40_code 203 = .ok (.getfield 216, 3) := by decide +kernel
theorem d_RM_isFrame_206 : decode prog_13_method_40_code 206 = .ok (.bipush 12, 2) := by decide +kernel
theorem d_RM_isFrame_208 : decode prog_13_method_40_code 208 = .ok (.iadd, 1) := by decide +kernel
theorem d_RM_isFrame_209 : decode prog_13_method_40_code 209 = .ok (.iconst 3, 1) := by decide +kernel
theorem d_RM_isFrame_210 : decode prog_13_method_40_code 210 = .ok (.iload_n 3, 1) := by decide +kernel
theorem d_RM_isFrame_211 : decode prog_13_method_40_code 211 = .ok (.imul, 1) := by decide +kernel
theorem d_RM_isFrame_212 : decode prog_13_method_40_code 212 = .ok (.iadd, 1) := by decide +kernel
theorem d_RM_isFrame_213 : decode prog_13_method_40_code 213 = .ok (.iaload, 1) := by decide +kernel
theorem d_RM_isFrame_214 : decode prog_13_method_40_code 214 = .ok (.ifCond .ne 7, 3) := by decide +kernel
theorem d_RM_isFrame_217 : decode prog_13_method_40_code 217 = .ok (.iconst 1, 1) := by decide +kernel
theorem d_RM_isFrame_218 : decode prog_13_method_40_code 218 = .ok (.goto 4, 3) := by decide +kernel
theorem d_RM_isFrame_221 : decode prog_13_method_40_code 221 = .ok (.iconst 0, 1) := by decide +kernel
theorem d_RM_isFrame_222 : decode prog_13_method_40_code 222 = .ok (.istore_n 2, 1) := by decide +kernel
theorem d_RM_isFrame_223 : decode prog_13_method_40_code 223 = .ok (.iinc 3 1, 3) := by decide +kernel
theorem d_RM_isFrame_226 : decode prog_13_method_40_code 226 = .ok (.goto (-91), 3) := by decide +kernel
theorem d_RM_isFrame_229 : decode prog_13_method_40_code 229 = .ok (.iload_n 2, 1) := by decide +kernel
theorem d_RM_isFrame_230 : decode prog_13_method_40_code 230 = .ok (.ifCond .ne 13, 3) := by decide +kernel
theorem d_RM_isFrame_233 : decode prog_13_method_40_code 233 = .ok (.aload_n 0, 1) := by decide +kernel
theorem d_RM_isFrame_234 : decode prog_13_method_40_code 234 = .ok (.iconst 4, 1) := by decide +kernel
theorem d_RM_isFrame_235 : decode prog_13_method_40_code 235 = .ok (.aload_n 0, 1) := by decide +kernel
theorem d_RM_isFrame_236 : decode prog_13_method_40_code 236 = .ok (.getfield 216, 3) := by decide +kernel
theorem d_RM_isFrame_239 : decode prog_13_method_40_code 239 = .ok (.invokevirtual 219, 3) := by decide +kernel
theorem d_RM_isFrame_242 : decode prog_13_method_40_code 242 = .ok (.ireturn, 1) := by decide +kernel
theorem d_RM_isFrame_243 : decode prog_13_method_40_code 243 = .ok (.aload_n 0, 1) := by decide +kernel
theorem d_RM_isFrame_244 : decode prog_13_method_40_code 244 = .ok (.iconst 1, 1) := by decide +kernel
theorem d_RM_isFrame_245 : decode prog_13_method_40_code 245 = .ok (.putfield 223, 3) := by decide +kernel
theorem d_RM_isFrame_248 : decode prog_13_method_40_code 248 = .ok (.aload_n 0, 1) := by decide +kernel
theorem d_RM_isFrame_249 : decode prog_13_method_40_code 249 = .ok (.aload_n 0, 1) := by decide +kernel
theorem d_RM_isFrame_250 : decode prog_13_method_40_code 250 = .ok (.getfield 32, 3) := by decide +kernel
theorem d_RM_isFrame_253 : decode prog_13_method_40_code 253 = .ok (.aload_n 0, 1) := by decide +kernel
theorem d_RM_isFrame_254 : decode prog_13_method_40_code 254 = .ok (.getfield 216, 3) := by decide +kernel
theorem d_RM_isFrame_257 : decode prog_13_method_40_code 257 = .ok (.iconst 4, 1) := by decide +kernel
theorem d_RM_isFrame_258 : decode prog_13_method_40_code 258 = .ok (.iadd, 1) := by decide +kernel
theorem d_RM_isFrame_259 : decode prog_13_method_40_code 259 = .ok (.iaload, 1) := by decide +kernel
theorem d_RM_isFrame_260 : decode prog_13_method_40_code 260 = .ok (.putfield 236, 3) := by decide +kernel
theorem d_RM_isFrame_263 : decode prog_13_method_40_code 263 = .ok (.aload_n 0, 1) := by decide +kernel
theorem d_RM_isFrame_264 : decode prog_13_method_40_code 264 = .ok (.aload_n 0, 1) := by decide +kernel
theorem d_RM_isFrame_265 : decode prog_13_method_40_code 265 = .ok (.aload_n 0, 1) := by decide +kernel
theorem d_RM_isFrame_266 : decode prog_13_method_40_code 266 = .ok (.getfield 216, 3) := by decide +kernel
theorem d_RM_isFrame_269 : decode prog_13_method_40_code 269 = .ok (.iconst 5, 1) := by decide +kernel
theorem d_RM_isFrame_270 : decode prog_13_method_40_code 270 = .ok (.iadd, 1) := by decide +kernel
theorem d_RM_isFrame_271 : decode prog_13_method_40_code 271 = .ok (.invokevirtual 230, 3) := by decide +kernel
theorem d_RM_isFrame_274 : decode prog_13_method_40_code 274 = .ok (.putfield 239, 3) := by decide +kernel
theorem d_RM_isFrame_277 : decode prog_13_method_40_code 277 = .ok (.aload_n 0, 1) := by decide +kernel
theorem d_RM_isFrame_278 : decode prog_13_method_40_code 278 = .ok (.aload_n 0, 1) := by decide +kernel
theorem d_RM_isFrame_279 : decode prog_13_method_40_code 279 = .ok (.aload_n 0, 1) := by decide +kernel
theorem d_RM_isFrame_280 : decode prog_13_method_40_code 280 = .ok (.getfield 216, 3) := by decide +kernel
theorem d_RM_isFrame_283 : decode prog_13_method_40_code 283 = .ok (.bipush 7, 2) := by decide +kernel
theorem d_RM_isFrame_285 : decode prog_13_method_40_code 285 = .ok (.iadd, 1) := by decide +kernel
theorem d_RM_isFrame_286 : decode prog_13_method_40_code 286 = .ok (.invokevirtual 230, 3) := by decide +kernel
theorem d_RM_isFrame_289 : decode prog_13_method_40_code 289 = .ok (.putfield 242, 3) := by decide +kernel
theorem d_RM_isFrame_292 : decode prog_13_method_40_code 292 = .ok (.aload_n 0, 1) := by decide +kernel
theorem d_RM_isFrame_293 : decode prog_13_method_40_code 293 = .ok (.aload_n 0, 1) := by decide +kernel
theorem d_RM_isFrame_294 : decode prog_13_method_40_code 294 = .ok (.getfield 32, 3) := by decide +kernel
theorem d_RM_isFrame_297 : decode prog_13_method_40_code 297 = .ok (.aload_n 0, 1) := by decide +kernel
theorem d_RM_isFrame_298 : decode prog_13_method_40_code 298 = .ok (.getfield 216, 3) := by decide +kernel
theorem d_RM_isFrame_301 : decode prog_13_method_40_code 301 = .ok (.bipush 9, 2) := by decide +kernel
theorem d_RM_isFrame_303 : decode prog_13_method_40_code 303 = .ok (.iadd, 1) := by decide +kernel
theorem d_RM_isFrame_304 : decode prog_13_method_40_code 304 = .ok (.iaload, 1) := by decide +kernel
theorem d_RM_isFrame_305 : decode prog_13_method_40_code 305 = .ok (.putfield 227, 3) := by decide +kernel
theorem d_RM_isFrame_308 : decode prog_13_method_40_code 308 = .ok (.iconst 1, 1) := by decide +kernel
theorem d_RM_isFrame_309 : decode prog_13_method_40_code 309 = .ok (.ireturn, 1) := by decide +kernel
def L_RM_isFrame_135 (r0 : Nat) (b1 : Int32) (σ : Mem) : Nat → Int32 → Int32 →  Option (Int32 × Int32)
  | 0, _, _ => none
  | n + 1, a2, a3 =>
  if inb ((σ r0 32) + (9 : Int32)) (wln (wtg r0 18)) = true then
  if (σ (wtg r0 18) ((σ r0 32) + (9 : Int32)).toNatClampNeg) ≤ a3 then
  some (a2, a3)
  else
  if a2 = 0 then
  some (a2, a3)
  else
  if inb (((σ r0 32) + (10 : Int32)) + ((3 : Int32) * a3)) (wln (wtg r0 18)) = true then
  lt (fun (y257 : Int32) => 
  L_RM_isFrame_135 r0 b1 σ n y257 (a3 + (1 : Int32))) fun K258 =>
  lt (
  K258 (0 : Int32)) fun K263 =>
  if (σ (wtg r0 18) (((σ r0 32) + (10 : Int32)) + ((3 : Int32) * a3)).toNatClampNeg) = (a3 + (1 : Int32)) then
  if inb (((σ r0 32) + (11 : Int32)) + ((3 : Int32) * a3)) (wln (wtg r0 18)) = true then
  if (σ (wtg r0 18) (((σ r0 32) + (11 : Int32)) + ((3 : Int32) * a3)).toNatClampNeg) = (17 : Int32) then
  if inb (((σ r0 32) + (12 : Int32)) + ((3 : Int32) * a3)) (wln (wtg r0 18)) = true then
  if (σ (wtg r0 18) (((σ r0 32) + (12 : Int32)) + ((3 : Int32) * a3)).toNatClampNeg) = 0 then
  K258 (1 : Int32)
  else
  K263
  else none
  else
  K263
  else none
  else
  K263
  else none
  else none
def f_RM_isFrame (k0 : Nat) (σ : Mem) : Option (Int32 × Mem) :=
  (f_RM_wide k0 ((σ k0 32) + (2 : Int32)) σ).bind fun r2 =>
  lt (fun  (σ16 : Mem) => 
  lt (f_RM_broken k0 (3 : Int32) (σ16 k0 32) σ16) fun q19 =>
  some (q19.1, q19.2)) fun K17 =>
  if r2 < (8 : Int32) then
  K17 σ
  else
  if inb ((σ k0 32) + (9 : Int32)) (wln (wtg k0 18)) = true then
  if r2 = ((8 : Int32) + ((3 : Int32) * (σ (wtg k0 18) ((σ k0 32) + (9 : Int32)).toNatClampNeg))) then
  if inb ((σ k0 32) + (4 : Int32)) (wln (wtg k0 18)) = true then
  lt (fun (y241 : Int32) => 
  (L_RM_isFrame_135 k0 r2 σ 9999 y241 (0 : Int32)).bind fun q270 =>
  if q270.1 = 0 then
  lt (f_RM_broken k0 (4 : Int32) (σ k0 32) σ) fun q283 =>
  some (q283.1, q283.2)
  else
  lt (mput σ k0 33 (1 : Int32)) fun σ272 =>
  if inb ((σ272 k0 32) + (4 : Int32)) (wln (wtg k0 18)) = true then
  lt (mput σ272 k0 36 (σ272 (wtg k0 18) ((σ272 k0 32) + (4 : Int32)).toNatClampNeg)) fun σ274 =>
  (f_RM_wide k0 ((σ274 k0 32) + (5 : Int32)) σ274).bind fun r276 =>
  lt (mput σ274 k0 35 r276) fun σ277 =>
  (f_RM_wide k0 ((σ277 k0 32) + (7 : Int32)) σ277).bind fun r279 =>
  lt (mput σ277 k0 34 r279) fun σ280 =>
  if inb ((σ280 k0 32) + (9 : Int32)) (wln (wtg k0 18)) = true then
  lt (mput σ280 k0 37 (σ280 (wtg k0 18) ((σ280 k0 32) + (9 : Int32)).toNatClampNeg)) fun σ282 =>
  some ((1 : Int32), σ282)
  else none
  else none) fun K242 =>
  lt (
  K242 (0 : Int32)) fun K287 =>
  if (f_RM_isIn (σ (wtg k0 18) ((σ k0 32) + (4 : Int32)).toNatClampNeg) (2 : Int32) (8 : Int32) σ) = 0 then
  K287
  else
  (f_RM_wide k0 ((σ k0 32) + (5 : Int32)) σ).bind fun r291 =>
  if (f_RM_isIn r291 (1 : Int32) (12 : Int32) σ) = 0 then
  K287
  else
  (f_RM_wide k0 ((σ k0 32) + (7 : Int32)) σ).bind fun r294 =>
  if (f_RM_isIn r294 (1 : Int32) (12 : Int32) σ) = 0 then
  K287
  else
  if inb ((σ k0 32) + (9 : Int32)) (wln (wtg k0 18)) = true then
  if (f_RM_isIn (σ (wtg k0 18) ((σ k0 32) + (9 : Int32)).toNatClampNeg) (1 : Int32) (4 : Int32) σ) = 0 then
  K287
  else
  K242 (1 : Int32)
  else none
  else none
  else
  K17 σ
  else none
set_option maxHeartbeats 4000000 in
set_option maxRecDepth 100000 in
theorem wL_RM_isFrame_135 {F : Fx} (C : Ctx F prog_13_method_40_code 4 "LineFramesModel" (some .boolean) 1 22) {cv : Option (Int32 × Int32) → Option Rs} (h0 : cv none = none) (r0 : Nat) (hr0 : Is r0 11) (b1 : Int32) (σ : Mem) (hex : ∀ q : Int32 × Int32, J F 4 cv (some q) σ 229 [(0, .ref (fad F r0)), (1, .int b1), (2, .int q.1), (3, .int q.2)] []) : ∀ (n : Nat) (a2 : Int32) (a3 : Int32), J F 4 cv (L_RM_isFrame_135 r0 b1 σ n a2 a3) σ 135 [(0, .ref (fad F r0)), (1, .int b1), (2, .int a2), (3, .int a3)] [] := by
  intro n
  induction n with
  | zero => intro a2 a3 hE; rw [L_RM_isFrame_135, h0] at hE; cases hE
  | succ n ih =>
    intro a2 a3
    rw [L_RM_isFrame_135]
    refine j_iload_n C d_RM_isFrame_135 3 rfl ?_
    refine j_aload_n C d_RM_isFrame_136 0 rfl ?_
    refine j_getR C hr0 fl_RM_32 rfl d_RM_isFrame_137 ?_
    refine j_aload_n C d_RM_isFrame_140 0 rfl ?_
    refine j_getI C hr0 fl_RM_216 rfl d_RM_isFrame_141 ?_
    refine j_bipush (v := (9 : Int32)) C d_RM_isFrame_144 (by decide) ?_
    refine j_iadd C d_RM_isFrame_146 ?_
    refine j_need (by exact h0) (fun g244 => ?_)
    refine j_iald C (tg_11_18 _ hr0) (inb_in g244) d_RM_isFrame_147 ?_
    refine j_icmp_ge (tgt := 229) C d_RM_isFrame_148 (by decide) (fun c245 => ?_) (fun c245 => ?_)
    · exact hex (a2, a3)
    · refine j_iload_n C d_RM_isFrame_151 2 rfl ?_
      refine j_if_eq (tgt := 229) C d_RM_isFrame_152 (by decide) (fun c246 => ?_) (fun c246 => ?_)
      · exact hex (a2, a3)
      · refine j_aload_n C d_RM_isFrame_155 0 rfl ?_
        refine j_getR C hr0 fl_RM_32 rfl d_RM_isFrame_156 ?_
        refine j_aload_n C d_RM_isFrame_159 0 rfl ?_
        refine j_getI C hr0 fl_RM_216 rfl d_RM_isFrame_160 ?_
        refine j_bipush (v := (10 : Int32)) C d_RM_isFrame_163 (by decide) ?_
        refine j_iadd C d_RM_isFrame_165 ?_
        refine j_iconst (v := (3 : Int32)) C d_RM_isFrame_166 (by decide) ?_
        refine j_iload_n C d_RM_isFrame_167 3 rfl ?_
        refine j_imul C d_RM_isFrame_168 ?_
        refine j_iadd C d_RM_isFrame_169 ?_
        refine j_need (by exact h0) (fun g247 => ?_)
        refine j_iald C (tg_11_18 _ hr0) (inb_in g247) d_RM_isFrame_170 ?_
        refine j_iload_n C d_RM_isFrame_171 3 rfl ?_
        refine j_iconst (v := (1 : Int32)) C d_RM_isFrame_172 (by decide) ?_
        refine j_iadd C d_RM_isFrame_173 ?_
        refine j_join1 222 (fun _ => [(0, .ref (fad F r0)), (1, .int b1), (2, .int a2), (3, .int a3)]) (fun y257 => [.int y257]) (fun y257 => ?_) (fun K258 H259 => ?_)
        · refine j_istore_n (lv9 := [(0, .ref (fad F r0)), (1, .int b1), (2, .int y257), (3, .int a3)]) C d_RM_isFrame_222 rfl rfl (by decide) ?_
          refine j_iinc (v := (a3 + (1 : Int32))) (lv9 := [(0, .ref (fad F r0)), (1, .int b1), (2, .int y257), (3, .int (a3 + (1 : Int32)))]) C d_RM_isFrame_223 3 rfl rfl rfl rfl (by decide) ?_
          refine j_goto (tgt := 135) C d_RM_isFrame_226 (by decide) ?_
          exact ih y257 (a3 + (1 : Int32))
        · refine j_join0 221 ([(0, .ref (fad F r0)), (1, .int b1), (2, .int a2), (3, .int a3)]) ([]) (?_) (fun K263 H264 => ?_)
          · refine j_iconst (v := (0 : Int32)) C d_RM_isFrame_221 (by decide) ?_
            exact H259 (0 : Int32)
          · refine j_icmp_ne (tgt := 221) C d_RM_isFrame_174 (by decide) (fun c265 => ?_) (fun c265 => ?_)
            · exact H264
            · refine j_aload_n C d_RM_isFrame_177 0 rfl ?_
              refine j_getR C hr0 fl_RM_32 rfl d_RM_isFrame_178 ?_
              refine j_aload_n C d_RM_isFrame_181 0 rfl ?_
              refine j_getI C hr0 fl_RM_216 rfl d_RM_isFrame_182 ?_
              refine j_bipush (v := (11 : Int32)) C d_RM_isFrame_185 (by decide) ?_
              refine j_iadd C d_RM_isFrame_187 ?_
              refine j_iconst (v := (3 : Int32)) C d_RM_isFrame_188 (by decide) ?_
              refine j_iload_n C d_RM_isFrame_189 3 rfl ?_
              refine j_imul C d_RM_isFrame_190 ?_
              refine j_iadd C d_RM_isFrame_191 ?_
              refine j_need (by exact h0) (fun g266 => ?_)
              refine j_iald C (tg_11_18 _ hr0) (inb_in g266) d_RM_isFrame_192 ?_
              refine j_bipush (v := (17 : Int32)) C d_RM_isFrame_193 (by decide) ?_
              refine j_icmp_ne (tgt := 221) C d_RM_isFrame_195 (by decide) (fun c267 => ?_) (fun c267 => ?_)
              · exact H264
              · refine j_aload_n C d_RM_isFrame_198 0 rfl ?_
                refine j_getR C hr0 fl_RM_32 rfl d_RM_isFrame_199 ?_
                refine j_aload_n C d_RM_isFrame_202 0 rfl ?_
                refine j_getI C hr0 fl_RM_216 rfl d_RM_isFrame_203 ?_
                refine j_bipush (v := (12 : Int32)) C d_RM_isFrame_206 (by decide) ?_
                refine j_iadd C d_RM_isFrame_208 ?_
                refine j_iconst (v := (3 : Int32)) C d_RM_isFrame_209 (by decide) ?_
                refine j_iload_n C d_RM_isFrame_210 3 rfl ?_
                refine j_imul C d_RM_isFrame_211 ?_
                refine j_iadd C d_RM_isFrame_212 ?_
                refine j_need (by exact h0) (fun g268 => ?_)
                refine j_iald C (tg_11_18 _ hr0) (inb_in g268) d_RM_isFrame_213 ?_
                refine j_if_ne (tgt := 221) C d_RM_isFrame_214 (by decide) (fun c269 => ?_) (fun c269 => ?_)
                · exact H264
                · refine j_iconst (v := (1 : Int32)) C d_RM_isFrame_217 (by decide) ?_
                  refine j_goto (tgt := 222) C d_RM_isFrame_218 (by decide) ?_
                  exact H259 (1 : Int32)
set_option maxHeartbeats 4000000 in
set_option maxRecDepth 100000 in
theorem w_RM_isFrame {F : Fx} (C : Ctx F prog_13_method_40_code 4 "LineFramesModel" (some .boolean) 1 22) {k0 : Nat} (h0k : Is k0 11) (σ : Mem) : J F 4 (cvO cvIM) (f_RM_isFrame k0 σ) σ 0 [(0, .ref (fad F k0))] [] := by
  unfold f_RM_isFrame
  refine j_aload_n C d_RM_isFrame_0 0 rfl ?_
  refine j_aload_n C d_RM_isFrame_1 0 rfl ?_
  refine j_getI C h0k fl_RM_216 rfl d_RM_isFrame_2 ?_
  refine j_iconst (v := (2 : Int32)) C d_RM_isFrame_5 (by decide) ?_
  refine j_iadd C d_RM_isFrame_6 ?_
  refine j_bind rfl (fun r2 e1 => ?_)
  refine j_callVi C mv_RM_230 [.int ((σ k0 32) + (2 : Int32))] [] h0k (c_RM_wide h0k ((σ k0 32) + (2 : Int32)) σ e1) rfl rfl (by decide) (Nat.le_of_ble_eq_true rfl) d_RM_isFrame_7 ?_
  refine j_istore_n (lv9 := [(0, .ref (fad F k0)), (1, .int r2)]) C d_RM_isFrame_10 rfl rfl (by decide) ?_
  refine j_iload_n C d_RM_isFrame_11 1 rfl ?_
  refine j_bipush (v := (8 : Int32)) C d_RM_isFrame_12 (by decide) ?_
  refine j_join0m 38 (fun _ => [(0, .ref (fad F k0)), (1, .int r2)]) (fun _ => []) (fun σ16 => ?_) (fun K17 H18 => ?_)
  · refine j_aload_n C d_RM_isFrame_38 0 rfl ?_
    refine j_iconst (v := (3 : Int32)) C d_RM_isFrame_39 (by decide) ?_
    refine j_aload_n C d_RM_isFrame_40 0 rfl ?_
    refine j_getI C h0k fl_RM_216 rfl d_RM_isFrame_41 ?_
    refine j_callVi C mv_RM_219 [.int (3 : Int32), .int (σ16 k0 32)] [] h0k (c_RM_broken h0k (3 : Int32) (σ16 k0 32) σ16) rfl rfl (by decide) (Nat.le_of_ble_eq_true rfl) d_RM_isFrame_44 ?_
    refine j_genIMz (z_RM_broken _ _ _ _) (fun q19 q19_z => ?_)
    exact j_iretz C (fun ρ h => leaf_eq h) (nz01 q19_z) d_RM_isFrame_47
  · refine j_icmp_lt (tgt := 38) C d_RM_isFrame_14 (by decide) (fun c20 => ?_) (fun c20 => ?_)
    · exact H18 σ
    · refine j_iload_n C d_RM_isFrame_17 1 rfl ?_
      refine j_bipush (v := (8 : Int32)) C d_RM_isFrame_18 (by decide) ?_
      refine j_iconst (v := (3 : Int32)) C d_RM_isFrame_20 (by decide) ?_
      refine j_aload_n C d_RM_isFrame_21 0 rfl ?_
      refine j_getR C h0k fl_RM_32 rfl d_RM_isFrame_22 ?_
      refine j_aload_n C d_RM_isFrame_25 0 rfl ?_
      refine j_getI C h0k fl_RM_216 rfl d_RM_isFrame_26 ?_
      refine j_bipush (v := (9 : Int32)) C d_RM_isFrame_29 (by decide) ?_
      refine j_iadd C d_RM_isFrame_31 ?_
      refine j_need rfl (fun g21 => ?_)
      refine j_iald C (tg_11_18 _ h0k) (inb_in g21) d_RM_isFrame_32 ?_
      refine j_imul C d_RM_isFrame_33 ?_
      refine j_iadd C d_RM_isFrame_34 ?_
      refine j_icmp_eq (tgt := 48) C d_RM_isFrame_35 (by decide) (fun c22 => ?_) (fun c22 => ?_)
      · refine j_aload_n C d_RM_isFrame_48 0 rfl ?_
        refine j_getR C h0k fl_RM_32 rfl d_RM_isFrame_49 ?_
        refine j_aload_n C d_RM_isFrame_52 0 rfl ?_
        refine j_getI C h0k fl_RM_216 rfl d_RM_isFrame_53 ?_
        refine j_iconst (v := (4 : Int32)) C d_RM_isFrame_56 (by decide) ?_
        refine j_iadd C d_RM_isFrame_57 ?_
        refine j_need rfl (fun g23 => ?_)
        refine j_iald C (tg_11_18 _ h0k) (inb_in g23) d_RM_isFrame_58 ?_
        refine j_iconst (v := (2 : Int32)) C d_RM_isFrame_59 (by decide) ?_
        refine j_bipush (v := (8 : Int32)) C d_RM_isFrame_60 (by decide) ?_
        refine j_callSi C ms_RM_93 [.int (σ (wtg k0 18) ((σ k0 32) + (4 : Int32)).toNatClampNeg), .int (2 : Int32), .int (8 : Int32)] [] (c_RM_isIn (σ (wtg k0 18) ((σ k0 32) + (4 : Int32)).toNatClampNeg) (2 : Int32) (8 : Int32) σ) rfl rfl (by decide) (Nat.le_of_ble_eq_true rfl) d_RM_isFrame_62 ?_
        refine j_join1 132 (fun _ => [(0, .ref (fad F k0)), (1, .int r2)]) (fun y241 => [.int y241]) (fun y241 => ?_) (fun K242 H243 => ?_)
        · refine j_istore_n (lv9 := [(0, .ref (fad F k0)), (1, .int r2), (2, .int y241)]) C d_RM_isFrame_132 rfl rfl (by decide) ?_
          refine j_iconst (v := (0 : Int32)) C d_RM_isFrame_133 (by decide) ?_
          refine j_istore_n (lv9 := [(0, .ref (fad F k0)), (1, .int r2), (2, .int y241), (3, .int (0 : Int32))]) C d_RM_isFrame_134 rfl rfl (by decide) ?_
          refine j_loop (wL_RM_isFrame_135 C rfl k0 h0k r2 σ (fun q270 => j_some ?_) 9999 y241 (0 : Int32))
          refine j_iload_n C d_RM_isFrame_229 2 rfl ?_
          refine j_if_ne (tgt := 243) C d_RM_isFrame_230 (by decide) (fun c271 => ?_) (fun c271 => ?_)
          · refine j_aload_n C d_RM_isFrame_243 0 rfl ?_
            refine j_iconst (v := (1 : Int32)) C d_RM_isFrame_244 (by decide) ?_
            refine j_put C h0k fl_RM_223 fw_11_33 rfl (nz01 (Or.inr rfl)) rfl d_RM_isFrame_245 (fun σ272 => ?_)
            refine j_aload_n C d_RM_isFrame_248 0 rfl ?_
            refine j_aload_n C d_RM_isFrame_249 0 rfl ?_
            refine j_getR C h0k fl_RM_32 rfl d_RM_isFrame_250 ?_
            refine j_aload_n C d_RM_isFrame_253 0 rfl ?_
            refine j_getI C h0k fl_RM_216 rfl d_RM_isFrame_254 ?_
            refine j_iconst (v := (4 : Int32)) C d_RM_isFrame_257 (by decide) ?_
            refine j_iadd C d_RM_isFrame_258 ?_
            refine j_need rfl (fun g273 => ?_)
            refine j_iald C (tg_11_18 _ h0k) (inb_in g273) d_RM_isFrame_259 ?_
            refine j_put C h0k fl_RM_236 fw_11_36 rfl rfl rfl d_RM_isFrame_260 (fun σ274 => ?_)
            refine j_aload_n C d_RM_isFrame_263 0 rfl ?_
            refine j_aload_n C d_RM_isFrame_264 0 rfl ?_
            refine j_aload_n C d_RM_isFrame_265 0 rfl ?_
            refine j_getI C h0k fl_RM_216 rfl d_RM_isFrame_266 ?_
            refine j_iconst (v := (5 : Int32)) C d_RM_isFrame_269 (by decide) ?_
            refine j_iadd C d_RM_isFrame_270 ?_
            refine j_bind rfl (fun r276 e275 => ?_)
            refine j_callVi C mv_RM_230 [.int ((σ274 k0 32) + (5 : Int32))] [.ref (fad F k0)] h0k (c_RM_wide h0k ((σ274 k0 32) + (5 : Int32)) σ274 e275) rfl rfl (by decide) (Nat.le_of_ble_eq_true rfl) d_RM_isFrame_271 ?_
            refine j_put C h0k fl_RM_239 fw_11_35 rfl rfl rfl d_RM_isFrame_274 (fun σ277 => ?_)
            refine j_aload_n C d_RM_isFrame_277 0 rfl ?_
            refine j_aload_n C d_RM_isFrame_278 0 rfl ?_
            refine j_aload_n C d_RM_isFrame_279 0 rfl ?_
            refine j_getI C h0k fl_RM_216 rfl d_RM_isFrame_280 ?_
            refine j_bipush (v := (7 : Int32)) C d_RM_isFrame_283 (by decide) ?_
            refine j_iadd C d_RM_isFrame_285 ?_
            refine j_bind rfl (fun r279 e278 => ?_)
            refine j_callVi C mv_RM_230 [.int ((σ277 k0 32) + (7 : Int32))] [.ref (fad F k0)] h0k (c_RM_wide h0k ((σ277 k0 32) + (7 : Int32)) σ277 e278) rfl rfl (by decide) (Nat.le_of_ble_eq_true rfl) d_RM_isFrame_286 ?_
            refine j_put C h0k fl_RM_242 fw_11_34 rfl rfl rfl d_RM_isFrame_289 (fun σ280 => ?_)
            refine j_aload_n C d_RM_isFrame_292 0 rfl ?_
            refine j_aload_n C d_RM_isFrame_293 0 rfl ?_
            refine j_getR C h0k fl_RM_32 rfl d_RM_isFrame_294 ?_
            refine j_aload_n C d_RM_isFrame_297 0 rfl ?_
            refine j_getI C h0k fl_RM_216 rfl d_RM_isFrame_298 ?_
            refine j_bipush (v := (9 : Int32)) C d_RM_isFrame_301 (by decide) ?_
            refine j_iadd C d_RM_isFrame_303 ?_
            refine j_need rfl (fun g281 => ?_)
            refine j_iald C (tg_11_18 _ h0k) (inb_in g281) d_RM_isFrame_304 ?_
            refine j_put C h0k fl_RM_227 fw_11_37 rfl rfl rfl d_RM_isFrame_305 (fun σ282 => ?_)
            refine j_iconst (v := (1 : Int32)) C d_RM_isFrame_308 (by decide) ?_
            exact j_iretz C (fun ρ h => leaf_eq h) (nz01 (Or.inr rfl)) d_RM_isFrame_309
          · refine j_aload_n C d_RM_isFrame_233 0 rfl ?_
            refine j_iconst (v := (4 : Int32)) C d_RM_isFrame_234 (by decide) ?_
            refine j_aload_n C d_RM_isFrame_235 0 rfl ?_
            refine j_getI C h0k fl_RM_216 rfl d_RM_isFrame_236 ?_
            refine j_callVi C mv_RM_219 [.int (4 : Int32), .int (σ k0 32)] [] h0k (c_RM_broken h0k (4 : Int32) (σ k0 32) σ) rfl rfl (by decide) (Nat.le_of_ble_eq_true rfl) d_RM_isFrame_239 ?_
            refine j_genIMz (z_RM_broken _ _ _ _) (fun q283 q283_z => ?_)
            exact j_iretz C (fun ρ h => leaf_eq h) (nz01 q283_z) d_RM_isFrame_242
        · refine j_join0 131 ([(0, .ref (fad F k0)), (1, .int r2)]) ([]) (?_) (fun K287 H288 => ?_)
          · refine j_iconst (v := (0 : Int32)) C d_RM_isFrame_131 (by decide) ?_
            exact H243 (0 : Int32)
          · refine j_if_eq (tgt := 131) C d_RM_isFrame_65 (by decide) (fun c289 => ?_) (fun c289 => ?_)
            · exact H288
            · refine j_aload_n C d_RM_isFrame_68 0 rfl ?_
              refine j_aload_n C d_RM_isFrame_69 0 rfl ?_
              refine j_getI C h0k fl_RM_216 rfl d_RM_isFrame_70 ?_
              refine j_iconst (v := (5 : Int32)) C d_RM_isFrame_73 (by decide) ?_
              refine j_iadd C d_RM_isFrame_74 ?_
              refine j_bind rfl (fun r291 e290 => ?_)
              refine j_callVi C mv_RM_230 [.int ((σ k0 32) + (5 : Int32))] [] h0k (c_RM_wide h0k ((σ k0 32) + (5 : Int32)) σ e290) rfl rfl (by decide) (Nat.le_of_ble_eq_true rfl) d_RM_isFrame_75 ?_
              refine j_iconst (v := (1 : Int32)) C d_RM_isFrame_78 (by decide) ?_
              refine j_bipush (v := (12 : Int32)) C d_RM_isFrame_79 (by decide) ?_
              refine j_callSi C ms_RM_93 [.int r291, .int (1 : Int32), .int (12 : Int32)] [] (c_RM_isIn r291 (1 : Int32) (12 : Int32) σ) rfl rfl (by decide) (Nat.le_of_ble_eq_true rfl) d_RM_isFrame_81 ?_
              refine j_if_eq (tgt := 131) C d_RM_isFrame_84 (by decide) (fun c292 => ?_) (fun c292 => ?_)
              · exact H288
              · refine j_aload_n C d_RM_isFrame_87 0 rfl ?_
                refine j_aload_n C d_RM_isFrame_88 0 rfl ?_
                refine j_getI C h0k fl_RM_216 rfl d_RM_isFrame_89 ?_
                refine j_bipush (v := (7 : Int32)) C d_RM_isFrame_92 (by decide) ?_
                refine j_iadd C d_RM_isFrame_94 ?_
                refine j_bind rfl (fun r294 e293 => ?_)
                refine j_callVi C mv_RM_230 [.int ((σ k0 32) + (7 : Int32))] [] h0k (c_RM_wide h0k ((σ k0 32) + (7 : Int32)) σ e293) rfl rfl (by decide) (Nat.le_of_ble_eq_true rfl) d_RM_isFrame_95 ?_
                refine j_iconst (v := (1 : Int32)) C d_RM_isFrame_98 (by decide) ?_
                refine j_bipush (v := (12 : Int32)) C d_RM_isFrame_99 (by decide) ?_
                refine j_callSi C ms_RM_93 [.int r294, .int (1 : Int32), .int (12 : Int32)] [] (c_RM_isIn r294 (1 : Int32) (12 : Int32) σ) rfl rfl (by decide) (Nat.le_of_ble_eq_true rfl) d_RM_isFrame_101 ?_
                refine j_if_eq (tgt := 131) C d_RM_isFrame_104 (by decide) (fun c295 => ?_) (fun c295 => ?_)
                · exact H288
                · refine j_aload_n C d_RM_isFrame_107 0 rfl ?_
                  refine j_getR C h0k fl_RM_32 rfl d_RM_isFrame_108 ?_
                  refine j_aload_n C d_RM_isFrame_111 0 rfl ?_
                  refine j_getI C h0k fl_RM_216 rfl d_RM_isFrame_112 ?_
                  refine j_bipush (v := (9 : Int32)) C d_RM_isFrame_115 (by decide) ?_
                  refine j_iadd C d_RM_isFrame_117 ?_
                  refine j_need rfl (fun g296 => ?_)
                  refine j_iald C (tg_11_18 _ h0k) (inb_in g296) d_RM_isFrame_118 ?_
                  refine j_iconst (v := (1 : Int32)) C d_RM_isFrame_119 (by decide) ?_
                  refine j_iconst (v := (4 : Int32)) C d_RM_isFrame_120 (by decide) ?_
                  refine j_callSi C ms_RM_93 [.int (σ (wtg k0 18) ((σ k0 32) + (9 : Int32)).toNatClampNeg), .int (1 : Int32), .int (4 : Int32)] [] (c_RM_isIn (σ (wtg k0 18) ((σ k0 32) + (9 : Int32)).toNatClampNeg) (1 : Int32) (4 : Int32) σ) rfl rfl (by decide) (Nat.le_of_ble_eq_true rfl) d_RM_isFrame_121 ?_
                  refine j_if_eq (tgt := 131) C d_RM_isFrame_124 (by decide) (fun c297 => ?_) (fun c297 => ?_)
                  · exact H288
                  · refine j_iconst (v := (1 : Int32)) C d_RM_isFrame_127 (by decide) ?_
                    refine j_goto (tgt := 132) C d_RM_isFrame_128 (by decide) ?_
                    exact H243 (1 : Int32)
      · exact H18 σ
theorem c_RM_isFrame {l : Launch} {D : va_G} {G : GC} {ad : Nat → Nat} {k0 : Nat} (h0k : Is k0 11) (σ : Mem) {q : Int32 × Mem} (hq : f_RM_isFrame k0 σ = some q) : Ctr l D G ad ⟨"LineFramesModel", "isFrame", "()Z"⟩ prog_13_method_40_code 4 (some .boolean) 1 22 [.ref (ad k0)] σ (.inl (some (.int q.1)), q.2) := ctr_J (cv := (cvO cvIM)) (E := f_RM_isFrame k0 σ) (by decide +kernel) (Nat.le_of_ble_eq_true rfl) (by rw [hq]; rfl) (fun F h C => by subst h; exact w_RM_isFrame C h0k σ)
/-! LineFramesModel isPreset ()Z -/
theorem d_RM_isPreset_0 : decode prog_13_method_41_code 0 = .ok (.aload_n 0, 1) := by decide +kernel
theorem d_RM_isPreset_1 : decode prog_13_method_41_code 1 = .ok (.aload_n 0, 1) := by decide +kernel
theorem d_RM_isPreset_2 : decode prog_13_method_41_code 2 = .ok (.getfield 216, 3) := by decide +kernel
theorem d_RM_isPreset_5 : decode prog_13_method_41_code 5 = .ok (.iconst 2, 1) := by decide +kernel
theorem d_RM_isPreset_6 : decode prog_13_method_41_code 6 = .ok (.iadd, 1) := by decide +kernel
theorem d_RM_isPreset_7 : decode prog_13_method_41_code 7 = .ok (.invokevirtual 230, 3) := by decide +kernel
theorem d_RM_isPreset_10 : decode prog_13_method_41_code 10 = .ok (.istore_n 1, 1) := by decide +kernel
theorem d_RM_isPreset_11 : decode prog_13_method_41_code 11 = .ok (.iload_n 1, 1) := by decide +kernel
theorem d_RM_isPreset_12 : decode prog_13_method_41_code 12 = .ok (.iconst 3, 1) := by decide +kernel
theorem d_RM_isPreset_13 : decode prog_13_method_41_code 13 = .ok (.if_icmp .ge 13, 3) := by decide +kernel
theorem d_RM_isPreset_16 : decode prog_13_method_41_code 16 = .ok (.aload_n 0, 1) := by decide +kernel
theorem d_RM_isPreset_17 : decode prog_13_method_41_code 17 = .ok (.iconst 3, 1) := by decide +kernel
theorem d_RM_isPreset_18 : decode prog_13_method_41_code 18 = .ok (.aload_n 0, 1) := by decide +kernel
theorem d_RM_isPreset_19 : decode prog_13_method_41_code 19 = .ok (.getfield 216, 3) := by decide +kernel
theorem d_RM_isPreset_22 : decode prog_13_method_41_code 22 = .ok (.invokevirtual 219, 3) := by decide +kernel
theorem d_RM_isPreset_25 : decode prog_13_method_41_code 25 = .ok (.ireturn, 1) := by decide +kernel
theorem d_RM_isPreset_26 : decode prog_13_method_41_code 26 = .ok (.aload_n 0, 1) := by decide +kernel
theorem d_RM_isPreset_27 : decode prog_13_method_41_code 27 = .ok (.getfield 32, 3) := by decide +kernel
theorem d_RM_isPreset_30 : decode prog_13_method_41_code 30 = .ok (.aload_n 0, 1) := by decide +kernel
theorem d_RM_isPreset_31 : decode prog_13_method_41_code 31 = .ok (.getfield 216, 3) := by decide +kernel
theorem d_RM_isPreset_34 : decode prog_13_method_41_code 34 = .ok (.iconst 4, 1) := by decide +kernel
theorem d_RM_isPreset_35 : decode prog_13_method_41_code 35 = .ok (.iadd, 1) := by decide +kernel
theorem d_RM_isPreset_36 : decode prog_13_method_41_code 36 = .ok (.iaload, 1) := by decide +kernel
theorem d_RM_isPreset_37 : decode prog_13_method_41_code 37 = .ok (.istore_n 2, 1) := by decide +kernel
theorem d_RM_isPreset_38 : decode prog_13_method_41_code 38 = .ok (.iload_n 2, 1) := by decide +kernel
theorem d_RM_isPreset_39 : decode prog_13_method_41_code 39 = .ok (.iconst 1, 1) := by decide +kernel
theorem d_RM_isPreset_40 : decode prog_13_method_41_code 40 = .ok (.if_icmp .eq 18, 3) := by decide +kernel
theorem d_RM_isPreset_43 : decode prog_13_method_41_code 43 = .ok (.iload_n 2, 1) := by decide +kernel
theorem d_RM_isPreset_44 : decode prog_13_method_41_code 44 = .ok (.iconst 2, 1) := by decide +kernel
theorem d_RM_isPreset_45 : decode prog_13_method_41_code 45 = .ok (.if_icmp .eq 13, 3) := by decide +kernel
theorem d_RM_isPreset_48 : decode prog_13_method_41_code 48 = .ok (.aload_n 0, 1) := by decide +kernel
theorem d_RM_isPreset_49 : decode prog_13_method_41_code 49 = .ok (.iconst 4, 1) := by decide +kernel
theorem d_RM_isPreset_50 : decode prog_13_method_41_code 50 = .ok (.aload_n 0, 1) := by decide +kernel
theorem d_RM_isPreset_51 : decode prog_13_method_41_code 51 = .ok (.getfield 216, 3) := by decide +kernel
theorem d_RM_isPreset_54 : decode prog_13_method_41_code 54 = .ok (.invokevirtual 219, 3) := by decide +kernel
theorem d_RM_isPreset_57 : decode prog_13_method_41_code 57 = .ok (.ireturn, 1) := by decide +kernel
theorem d_RM_isPreset_58 : decode prog_13_method_41_code 58 = .ok (.iload_n 2, 1) := by decide +kernel
theorem d_RM_isPreset_59 : decode prog_13_method_41_code 59 = .ok (.iconst 1, 1) := by decide +kernel
theorem d_RM_isPreset_60 : decode prog_13_method_41_code 60 = .ok (.if_icmp .ne 92, 3) := by decide +kernel
theorem d_RM_isPreset_63 : decode prog_13_method_41_code 63 = .ok (.iload_n 1, 1) := by decide +kernel
theorem d_RM_isPreset_64 : decode prog_13_method_41_code 64 = .ok (.iconst 5, 1) := by decide +kernel
theorem d_RM_isPreset_65 : decode prog_13_method_41_code 65 = .ok (.if_icmp .eq 13, 3) := by decide +kernel
theorem d_RM_isPreset_68 : decode prog_13_method_41_code 68 = .ok (.aload_n 0, 1) := by decide +kernel
theorem d_RM_isPreset_69 : decode prog_13_method_41_code 69 = .ok (.iconst 3, 1) := by decide +kernel
theorem d_RM_isPreset_70 : decode prog_13_method_41_code 70 = .ok (.aload_n 0, 1) := by decide +kernel
theorem d_RM_isPreset_71 : decode prog_13_method_41_code 71 = .ok (.getfield 216, 3) := by decide +kernel
theorem d_RM_isPreset_74 : decode prog_13_method_41_code 74 = .ok (.invokevirtual 219, 3) := by decide +kernel
theorem d_RM_isPreset_77 : decode prog_13_method_41_code 77 = .ok (.ireturn, 1) := by decide +kernel
theorem d_RM_isPreset_78 : decode prog_13_method_41_code 78 = .ok (.aload_n 0, 1) := by decide +kernel
theorem d_RM_isPreset_79 : decode prog_13_method_41_code 79 = .ok (.getfield 32, 3) := by decide +kernel
theorem d_RM_isPreset_82 : decode prog_13_method_41_code 82 = .ok (.aload_n 0, 1) := by decide +kernel
theorem d_RM_isPreset_83 : decode prog_13_method_41_code 83 = .ok (.getfield 216, 3) := by decide +kernel
theorem d_RM_isPreset_86 : decode prog_13_method_41_code 86 = .ok (.iconst 5, 1) := by decide +kernel
theorem d_RM_isPreset_87 : decode prog_13_method_41_code 87 = .ok (.iadd, 1) := by decide +kernel
theorem d_RM_isPreset_88 : decode prog_13_method_41_code 88 = .ok (.iaload, 1) := by decide +kernel
theorem d_RM_isPreset_89 : decode prog_13_method_41_code 89 = .ok (.iconst 3, 1) := by decide +kernel
theorem d_RM_isPreset_90 : decode prog_13_method_41_code 90 = .ok (.if_icmp .lt 19, 3) := by decide +kernel
theorem d_RM_isPreset_93 : decode prog_13_method_41_code 93 = .ok (.aload_n 0, 1) := by decide +kernel
theorem d_RM_isPreset_94 : decode prog_13_method_41_code 94 = .ok (.getfield 32, 3) := by decide +kernel
theorem d_RM_isPreset_97 : decode prog_13_method_41_code 97 = .ok (.aload_n 0, 1) := by decide +kernel
theorem d_RM_isPreset_98 : decode prog_13_method_41_code 98 = .ok (.getfield 216, 3) := by decide +kernel
theorem d_RM_isPreset_101 : decode prog_13_method_41_code 101 = .ok (.bipush 6, 2) := by decide +kernel
theorem d_RM_isPreset_103 : decode prog_13_method_41_code 103 = .ok (.iadd, 1) := by decide +kernel
theorem d_RM_isPreset_104 : decode prog_13_method_41_code 104 = .ok (.iaload, 1) := by decide +kernel
theorem d_RM_isPreset_105 : decode prog_13_method_41_code 105 = .ok (.iconst 1, 1) := by decide +kernel
theorem d_RM_isPreset_106 : decode prog_13_method_41_code 106 = .ok (.if_icmp .ge 13, 3) := by decide +kernel
theorem d_RM_isPreset_109 : decode prog_13_method_41_code 109 = .ok (.aload_n 0, 1) := by decide +kernel
theorem d_RM_isPreset_110 : decode prog_13_method_41_code 110 = .ok (.iconst 4, 1) := by decide +kernel
theorem d_RM_isPreset_111 : decode prog_13_method_41_code 111 = .ok (.aload_n 0, 1) := by decide +kernel
theorem d_RM_isPreset_112 : decode prog_13_method_41_code 112 = .ok (.getfield 216, 3) := by decide +kernel
theorem d_RM_isPreset_115 : decode prog_13_method_41_code 115 = .ok (.invokevirtual 219, 3) := by decide +kernel
theorem d_RM_isPreset_118 : decode prog_13_method_41_code 118 = .ok (.ireturn, 1) := by decide +kernel
theorem d_RM_isPreset_119 : decode prog_13_method_41_code 119 = .ok (.aload_n 0, 1) := by decide +kernel
theorem d_RM_isPreset_120 : decode prog_13_method_41_code 120 = .ok (.aload_n 0, 1) := by decide +kernel
theorem d_RM_isPreset_121 : decode prog_13_method_41_code 121 = .ok (.getfield 32, 3) := by decide +kernel
theorem d_RM_isPreset_124 : decode prog_13_method_41_code 124 = .ok (.aload_n 0, 1) := by decide +kernel
theorem d_RM_isPreset_125 : decode prog_13_method_41_code 125 = .ok (.getfield 216, 3) := by decide +kernel
theorem d_RM_isPreset_128 : decode prog_13_method_41_code 128 = .ok (.iconst 5, 1) := by decide +kernel
theorem d_RM_isPreset_129 : decode prog_13_method_41_code 129 = .ok (.iadd, 1) := by decide +kernel
theorem d_RM_isPreset_130 : decode prog_13_method_41_code 130 = .ok (.iaload, 1) := by decide +kernel
theorem d_RM_isPreset_131 : decode prog_13_method_41_code 131 = .ok (.putfield 245, 3) := by decide +kernel
theorem d_RM_isPreset_134 : decode prog_13_method_41_code 134 = .ok (.aload_n 0, 1) := by decide +kernel
theorem d_RM_isPreset_135 : decode prog_13_method_41_code 135 = .ok (.aload_n 0, 1) := by decide +kernel
theorem d_RM_isPreset_136 : decode prog_13_method_41_code 136 = .ok (.getfield 32, 3) := by decide +kernel
theorem d_RM_isPreset_139 : decode prog_13_method_41_code 139 = .ok (.aload_n 0, 1) := by decide +kernel
theorem d_RM_isPreset_140 : decode prog_13_method_41_code 140 = .ok (.getfield 216, 3) := by decide +kernel
theorem d_RM_isPreset_143 : decode prog_13_method_41_code 143 = .ok (.bipush 6, 2) := by decide +kernel
theorem d_RM_isPreset_145 : decode prog_13_method_41_code 145 = .ok (.iadd, 1) := by decide +kernel
theorem d_RM_isPreset_146 : decode prog_13_method_41_code 146 = .ok (.iaload, 1) := by decide +kernel
theorem d_RM_isPreset_147 : decode prog_13_method_41_code 147 = .ok (.putfield 248, 3) := by decide +kernel
theorem d_RM_isPreset_150 : decode prog_13_method_41_code 150 = .ok (.iconst 1, 1) := by decide +kernel
theorem d_RM_isPreset_151 : decode prog_13_method_41_code 151 = .ok (.ireturn, 1) := by decide +kernel
theorem d_RM_isPreset_152 : decode prog_13_method_41_code 152 = .ok (.aload_n 0, 1) := by decide +kernel
theorem d_RM_isPreset_153 : decode prog_13_method_41_code 153 = .ok (.getfield 236, 3) := by decide +kernel
theorem d_RM_isPreset_156 : decode prog_13_method_41_code 156 = .ok (.invokestatic 129, 3) := by decide +kernel
theorem d_RM_isPreset_159 : decode prog_13_method_41_code 159 = .ok (.iconst 1, 1) := by decide +kernel
theorem d_RM_isPreset_160 : decode prog_13_method_41_code 160 = .ok (.iadd, 1) := by decide +kernel
theorem d_RM_isPreset_161 : decode prog_13_method_41_code 161 = .ok (.istore_n 3, 1) := by decide +kernel
theorem d_RM_isPreset_162 : decode prog_13_method_41_code 162 = .ok (.iload_n 1, 1) := by decide +kernel
theorem d_RM_isPreset_163 : decode prog_13_method_41_code 163 = .ok (.iconst 5, 1) := by decide +kernel
theorem d_RM_isPreset_164 : decode prog_13_method_41_code 164 = .ok (.iconst 2, 1) := by decide +kernel
theorem d_RM_isPreset_165 : decode prog_13_method_41_code 165 = .ok (.iload_n 3, 1) := by decide +kernel
theorem d_RM_isPreset_166 : decode prog_13_method_41_code 166 = .ok (.imul, 1) := by decide +kernel
theorem d_RM_isPreset_167 : decode prog_13_method_41_code 167 = .ok (.iadd, 1) := by decide +kernel
theorem d_RM_isPreset_168 : decode prog_13_method_41_code 168 = .ok (.if_icmp .eq 13, 3) := by decide +kernel
theorem d_RM_isPreset_171 : decode prog_13_method_41_code 171 = .ok (.aload_n 0, 1) := by decide +kernel
theorem d_RM_isPreset_172 : decode prog_13_method_41_code 172 = .ok (.iconst 3, 1) := by decide +kernel
theorem d_RM_isPreset_173 : decode prog_13_method_41_code 173 = .ok (.aload_n 0, 1) := by decide +kernel
theorem d_RM_isPreset_174 : decode prog_13_method_41_code 174 = .ok (.getfield 216, 3) := by decide +kernel
theorem d_RM_isPreset_177 : decode prog_13_method_41_code 177 = .ok (.invokevirtual 219, 3) := by decide +kernel
theorem d_RM_isPreset_180 : decode prog_13_method_41_code 180 = .ok (.ireturn, 1) := by decide +kernel
theorem d_RM_isPreset_181 : decode prog_13_method_41_code 181 = .ok (.aload_n 0, 1) := by decide +kernel
theorem d_RM_isPreset_182 : decode prog_13_method_41_code 182 = .ok (.getfield 32, 3) := by decide +kernel
theorem d_RM_isPreset_185 : decode prog_13_method_41_code 185 = .ok (.aload_n 0, 1) := by decide +kernel
theorem d_RM_isPreset_186 : decode prog_13_method_41_code 186 = .ok (.getfield 216, 3) := by decide +kernel
theorem d_RM_isPreset_189 : decode prog_13_method_41_code 189 = .ok (.iconst 5, 1) := by decide +kernel
theorem d_RM_isPreset_190 : decode prog_13_method_41_code 190 = .ok (.iadd, 1) := by decide +kernel
theorem d_RM_isPreset_191 : decode prog_13_method_41_code 191 = .ok (.iaload, 1) := by decide +kernel
theorem d_RM_isPreset_192 : decode prog_13_method_41_code 192 = .ok (.iconst 1, 1) := by decide +kernel
theorem d_RM_isPreset_193 : decode prog_13_method_41_code 193 = .ok (.isub, 1) := by decide +kernel
theorem d_RM_isPreset_194 : decode prog_13_method_41_code 194 = .ok (.istore 4, 2) := by decide +kernel
theorem d_RM_isPreset_196 : decode prog_13_method_41_code 196 = .ok (.iload 4, 2) := by decide +kernel
theorem d_RM_isPreset_198 : decode prog_13_method_41_code 198 = .ok (.iconst 0, 1) := by decide +kernel
theorem d_RM_isPreset_199 : decode prog_13_method_41_code 199 = .ok (.aload_n 0, 1) := by decide +kernel
theorem d_RM_isPreset_200 : decode prog_13_method_41_code 200 = .ok (.getfield 227, 3) := by decide +kernel
theorem d_RM_isPreset_203 : decode prog_13_method_41_code 203 = .ok (.iconst 1, 1) := by decide +kernel
theorem d_RM_isPreset_204 : decode prog_13_method_41_code 204 = .ok (.isub, 1) := by decide +kernel
theorem d_RM_isPreset_205 : decode prog_13_method_41_code 205 = .ok (.invokestatic 93, 3) := by decide +kernel
theorem d_RM_isPreset_208 : decode prog_13_method_41_code 208 = .ok (.ifCond .ne 14, 3) := by decide +kernel
theorem d_RM_isPreset_211 : decode prog_13_method_41_code 211 = .ok (.aload_n 0, 1) := by decide +kernel
theorem d_RM_isPreset_212 : decode prog_13_method_41_code 212 = .ok (.bipush 6, 2) := by decide +kernel
theorem d_RM_isPreset_214 : decode prog_13_method_41_code 214 = .ok (.aload_n 0, 1) := by decide +kernel
theorem d_RM_isPreset_215 : decode prog_13_method_41_code 215 = .ok (.getfield 216, 3) := by decide +kernel
theorem d_RM_isPreset_218 : decode prog_13_method_41_code 218 = .ok (.invokevirtual 219, 3) := by decide +kernel
theorem d_RM_isPreset_221 : decode prog_13_method_41_code 221 = .ok (.ireturn, 1) := by decide +kernel
theorem d_RM_isPreset_222 : decode prog_13_method_41_code 222 = .ok (.aload_n 0, 1) := by decide +kernel
theorem d_RM_isPreset_223 : decode prog_13_method_41_code 223 = .ok (.getfield 59, 3) := by decide +kernel
theorem d_RM_isPreset_226 : decode prog_13_method_41_code 226 = .ok (.iload 4, 2) := by decide +kernel
theorem d_RM_isPreset_228 : decode prog_13_method_41_code 228 = .ok (.baload, 1) := by decide +kernel
theorem d_RM_isPreset_229 : decode prog_13_method_41_code 229 = .ok (.ifCond .eq 13, 3) := by decide +kernel
theorem d_RM_isPreset_232 : decode prog_13_method_41_code 232 = .ok (.aload_n 0, 1) := by decide +kernel
theorem d_RM_isPreset_233 : decode prog_13_method_41_code 233 = .ok (.iconst 5, 1) := by decide +kernel
theorem d_RM_isPreset_234 : decode prog_13_method_41_code 234 = .ok (.aload_n 0, 1) := by decide +kernel
theorem d_RM_isPreset_235 : decode prog_13_method_41_code 235 = .ok (.getfield 216, 3) := by decide +kernel
theorem d_RM_isPreset_238 : decode prog_13_method_41_code 238 = .ok (.invokevirtual 219, 3) := by decide +kernel
theorem d_RM_isPreset_241 : decode prog_13_method_41_code 241 = .ok (.ireturn, 1) := by decide +kernel
theorem d_RM_isPreset_242 : decode prog_13_method_41_code 242 = .ok (.aload_n 0, 1) := by decide +kernel
theorem d_RM_isPreset_243 : decode prog_13_method_41_code 243 = .ok (.getfield 32, 3) := by decide +kernel
theorem d_RM_isPreset_246 : decode prog_13_method_41_code 246 = .ok (.aload_n 0, 1) := by decide +kernel
theorem d_RM_isPreset_247 : decode prog_13_method_41_code 247 = .ok (.getfield 216, 3) := by decide +kernel
theorem d_RM_isPreset_250 : decode prog_13_method_41_code 250 = .ok (.bipush 6, 2) := by decide +kernel
theorem d_RM_isPreset_252 : decode prog_13_method_41_code 252 = .ok (.iadd, 1) := by decide +kernel
theorem d_RM_isPreset_253 : decode prog_13_method_41_code 253 = .ok (.iaload, 1) := by decide +kernel
theorem d_RM_isPreset_254 : decode prog_13_method_41_code 254 = .ok (.iconst 2, 1) := by decide +kernel
theorem d_RM_isPreset_255 : decode prog_13_method_41_code 255 = .ok (.if_icmp .eq 13, 3) := by decide +kernel
theorem d_RM_isPreset_258 : decode prog_13_method_41_code 258 = .ok (.aload_n 0, 1) := by decide +kernel
theorem d_RM_isPreset_259 : decode prog_13_method_41_code 259 = .ok (.iconst 4, 1) := by decide +kernel
theorem d_RM_isPreset_260 : decode prog_13_method_41_code 260 = .ok (.aload_n 0, 1) := by decide +kernel
theorem d_RM_isPreset_261 : decode prog_13_method_41_code 261 = .ok (.getfield 216, 3) := by decide +kernel
theorem d_RM_isPreset_264 : decode prog_13_method_41_code 264 = .ok (.invokevirtual 219, 3) := by decide +kernel
theorem d_RM_isPreset_267 : decode prog_13_method_41_code 267 = .ok (.ireturn, 1) := by decide +kernel
theorem d_RM_isPreset_268 : decode prog_13_method_41_code 268 = .ok (.aload_n 0, 1) := by decide +kernel
theorem d_RM_isPreset_269 : decode prog_13_method_41_code 269 = .ok (.getfield 59, 3) := by decide +kernel
theorem d_RM_isPreset_272 : decode prog_13_method_41_code 272 = .ok (.iload 4, 2) := by decide +kernel
theorem d_RM_isPreset_274 : decode prog_13_method_41_code 274 = .ok (.iconst 1, 1) := by decide +kernel
theorem d_RM_isPreset_275 : decode prog_13_method_41_code 275 = .ok (.bastore, 1) := by decide +kernel
theorem d_RM_isPreset_276 : decode prog_13_method_41_code 276 = .ok (.iconst 0, 1) := by decide +kernel
theorem d_RM_isPreset_277 : decode prog_13_method_41_code 277 = .ok (.istore 5, 2) := by decide +kernel
theorem d_RM_isPreset_279 : decode prog_13_method_41_code 279 = .ok (.iload 5, 2) := by decide +kernel
theorem d_RM_isPreset_281 : decode prog_13_method_41_code 281 = .ok (.iload_n 3, 1) := by decide +kernel
theorem d_RM_isPreset_282 : decode prog_13_method_41_code 282 = .ok (.if_icmp .ge 39, 3) := by decide +kernel
theorem d_RM_isPreset_285 : decode prog_13_method_41_code 285 = .ok (.aload_n 0, 1) := by decide +kernel
theorem d_RM_isPreset_286 : decode prog_13_method_41_code 286 = .ok (.getfield 62, 3) := by decide +kernel
theorem d_RM_isPreset_289 : decode prog_13_method_41_code 289 = .ok (.sipush 256, 3) := by decide +kernel
theorem d_RM_isPreset_292 : decode prog_13_method_41_code 292 = .ok (.iload 4, 2) := by decide +kernel
theorem d_RM_isPreset_294 : decode prog_13_method_41_code 294 = .ok (.imul, 1) := by decide +kernel
theorem d_RM_isPreset_295 : decode prog_13_method_41_code 295 = .ok (.iload 5, 2) := by decide +kernel
theorem d_RM_isPreset_297 : decode prog_13_method_41_code 297 = .ok (.iadd, 1) := by decide +kernel
theorem d_RM_isPreset_298 : decode prog_13_method_41_code 298 = .ok (.aload_n 0, 1) := by decide +kernel
theorem d_RM_isPreset_299 : decode prog_13_method_41_code 299 = .ok (.aload_n 0, 1) := by decide +kernel
theorem d_RM_isPreset_300 : decode prog_13_method_41_code 300 = .ok (.getfield 216, 3) := by decide +kernel
theorem d_RM_isPreset_303 : decode prog_13_method_41_code 303 = .ok (.bipush 7, 2) := by decide +kernel
theorem d_RM_isPreset_305 : decode prog_13_method_41_code 305 = .ok (.iadd, 1) := by decide +kernel
theorem d_RM_isPreset_306 : decode prog_13_method_41_code 306 = .ok (.iconst 2, 1) := by decide +kernel
theorem d_RM_isPreset_307 : decode prog_13_method_41_code 307 = .ok (.iload 5, 2) := by decide +kernel
theorem d_RM_isPreset_309 : decode prog_13_method_41_code 309 = .ok (.imul, 1) := by decide +kernel
theorem d_RM_isPreset_310 : decode prog_13_method_41_code 310 = .ok (.iadd, 1) := by decide +kernel
theorem d_RM_isPreset_311 : decode prog_13_method_41_code 311 = .ok (.invokevirtual 230, 3) := by decide +kernel
theorem d_RM_isPreset_314 : decode prog_13_method_41_code 314 = .ok (.iastore, 1) := by decide +kernel
theorem d_RM_isPreset_315 : decode prog_13_method_41_code 315 = .ok (.iinc 5 1, 3) := by decide +kernel
theorem d_RM_isPreset_318 : decode prog_13_method_41_code 318 = .ok (.goto (-39), 3) := by decide +kernel
theorem d_RM_isPreset_321 : decode prog_13_method_41_code 321 = .ok (.iconst 1, 1) := by decide +kernel
theorem d_RM_isPreset_322 : decode prog_13_method_41_code 322 = .ok (.ireturn, 1) := by decide +kernel
def L_RM_isPreset_279 (r0 : Nat) (b1 : Int32) (b2 : Int32) (b3 : Int32) (b4 : Int32) : Nat → Int32 → Mem →  Option (Int32 × Mem)
  | 0, _, _ => none
  | n + 1, a5, σ =>
  if b3 ≤ a5 then
  some (a5, σ)
  else
  (f_RM_wide r0 (((σ r0 32) + (7 : Int32)) + ((2 : Int32) * a5)) σ).bind fun r654 =>
  if inb (((256 : Int32) * b4) + a5) (wln (wtg r0 46)) = true then
  lt (mput σ (wtg r0 46) (((256 : Int32) * b4) + a5).toNatClampNeg r654) fun σ656 =>
  L_RM_isPreset_279 r0 b1 b2 b3 b4 n (a5 + (1 : Int32)) σ656
  else none
def f_RM_isPreset (k0 : Nat) (σ : Mem) : Option (Int32 × Mem) :=
  (f_RM_wide k0 ((σ k0 32) + (2 : Int32)) σ).bind fun r2 =>
  if (3 : Int32) ≤ r2 then
  if inb ((σ k0 32) + (4 : Int32)) (wln (wtg k0 18)) = true then
  lt (σ (wtg k0 18) ((σ k0 32) + (4 : Int32)).toNatClampNeg) fun v5 =>
  lt (fun  (σ637 : Mem) => 
  if v5 = (1 : Int32) then
  if r2 = (5 : Int32) then
  if inb ((σ637 k0 32) + (5 : Int32)) (wln (wtg k0 18)) = true then
  lt (fun  (σ677 : Mem) => 
  lt (f_RM_broken k0 (4 : Int32) (σ677 k0 32) σ677) fun q680 =>
  some (q680.1, q680.2)) fun K678 =>
  if (σ637 (wtg k0 18) ((σ637 k0 32) + (5 : Int32)).toNatClampNeg) < (3 : Int32) then
  K678 σ637
  else
  if inb ((σ637 k0 32) + (6 : Int32)) (wln (wtg k0 18)) = true then
  if (1 : Int32) ≤ (σ637 (wtg k0 18) ((σ637 k0 32) + (6 : Int32)).toNatClampNeg) then
  if inb ((σ637 k0 32) + (5 : Int32)) (wln (wtg k0 18)) = true then
  lt (mput σ637 k0 38 (σ637 (wtg k0 18) ((σ637 k0 32) + (5 : Int32)).toNatClampNeg)) fun σ685 =>
  if inb ((σ685 k0 32) + (6 : Int32)) (wln (wtg k0 18)) = true then
  lt (mput σ685 k0 39 (σ685 (wtg k0 18) ((σ685 k0 32) + (6 : Int32)).toNatClampNeg)) fun σ687 =>
  some ((1 : Int32), σ687)
  else none
  else none
  else
  K678 σ637
  else none
  else none
  else
  lt (f_RM_broken k0 (3 : Int32) (σ637 k0 32) σ637) fun q688 =>
  some (q688.1, q688.2)
  else
  lt ((f_RM_topOf (σ637 k0 36) σ637) + (1 : Int32)) fun v641 =>
  if r2 = ((5 : Int32) + ((2 : Int32) * v641)) then
  if inb ((σ637 k0 32) + (5 : Int32)) (wln (wtg k0 18)) = true then
  lt ((σ637 (wtg k0 18) ((σ637 k0 32) + (5 : Int32)).toNatClampNeg) - (1 : Int32)) fun v644 =>
  if (f_RM_isIn v644 (0 : Int32) ((σ637 k0 37) - (1 : Int32)) σ637) = 0 then
  lt (f_RM_broken k0 (6 : Int32) (σ637 k0 32) σ637) fun q660 =>
  some (q660.1, q660.2)
  else
  if inb v644 (wln (wtg k0 45)) = true then
  if (σ637 (wtg k0 45) v644.toNatClampNeg) = 0 then
  if inb ((σ637 k0 32) + (6 : Int32)) (wln (wtg k0 18)) = true then
  if (σ637 (wtg k0 18) ((σ637 k0 32) + (6 : Int32)).toNatClampNeg) = (2 : Int32) then
  if inb v644 (wln (wtg k0 45)) = true then
  lt (mput σ637 (wtg k0 45) v644.toNatClampNeg (nz (1 : Int32))) fun σ651 =>
  (L_RM_isPreset_279 k0 r2 v5 v641 v644 9999 (0 : Int32) σ651).bind fun q657 =>
  some ((1 : Int32), q657.2)
  else none
  else
  lt (f_RM_broken k0 (4 : Int32) (σ637 k0 32) σ637) fun q658 =>
  some (q658.1, q658.2)
  else none
  else
  lt (f_RM_broken k0 (5 : Int32) (σ637 k0 32) σ637) fun q659 =>
  some (q659.1, q659.2)
  else none
  else none
  else
  lt (f_RM_broken k0 (3 : Int32) (σ637 k0 32) σ637) fun q661 =>
  some (q661.1, q661.2)) fun K638 =>
  if v5 = (1 : Int32) then
  K638 σ
  else
  if v5 = (2 : Int32) then
  K638 σ
  else
  lt (f_RM_broken k0 (4 : Int32) (σ k0 32) σ) fun q691 =>
  some (q691.1, q691.2)
  else none
  else
  lt (f_RM_broken k0 (3 : Int32) (σ k0 32) σ) fun q692 =>
  some (q692.1, q692.2)
set_option maxHeartbeats 4000000 in
set_option maxRecDepth 100000 in
theorem wL_RM_isPreset_279 {F : Fx} (C : Ctx F prog_13_method_41_code 6 "LineFramesModel" (some .boolean) 1 22) {cv : Option (Int32 × Mem) → Option Rs} (h0 : cv none = none) (r0 : Nat) (hr0 : Is r0 11) (b1 : Int32) (b2 : Int32) (b3 : Int32) (b4 : Int32) (hex : ∀ q : Int32 × Mem, J F 6 cv (some q) q.2 321 [(0, .ref (fad F r0)), (1, .int b1), (2, .int b2), (3, .int b3), (4, .int b4), (5, .int q.1)] []) : ∀ (n : Nat) (a5 : Int32) (σ : Mem), J F 6 cv (L_RM_isPreset_279 r0 b1 b2 b3 b4 n a5 σ) σ 279 [(0, .ref (fad F r0)), (1, .int b1), (2, .int b2), (3, .int b3), (4, .int b4), (5, .int a5)] [] := by
  intro n
  induction n with
  | zero => intro a5 σ hE; rw [L_RM_isPreset_279, h0] at hE; cases hE
  | succ n ih =>
    intro a5 σ
    rw [L_RM_isPreset_279]
    refine j_iload C d_RM_isPreset_279 5 rfl ?_
    refine j_iload_n C d_RM_isPreset_281 3 rfl ?_
    refine j_icmp_ge (tgt := 321) C d_RM_isPreset_282 (by decide) (fun c652 => ?_) (fun c652 => ?_)
    · exact hex (a5, σ)
    · refine j_aload_n C d_RM_isPreset_285 0 rfl ?_
      refine j_getR C hr0 fl_RM_62 rfl d_RM_isPreset_286 ?_
      refine j_sipush (v := (256 : Int32)) C d_RM_isPreset_289 (by decide) ?_
      refine j_iload C d_RM_isPreset_292 4 rfl ?_
      refine j_imul C d_RM_isPreset_294 ?_
      refine j_iload C d_RM_isPreset_295 5 rfl ?_
      refine j_iadd C d_RM_isPreset_297 ?_
      refine j_aload_n C d_RM_isPreset_298 0 rfl ?_
      refine j_aload_n C d_RM_isPreset_299 0 rfl ?_
      refine j_getI C hr0 fl_RM_216 rfl d_RM_isPreset_300 ?_
      refine j_bipush (v := (7 : Int32)) C d_RM_isPreset_303 (by decide) ?_
      refine j_iadd C d_RM_isPreset_305 ?_
      refine j_iconst (v := (2 : Int32)) C d_RM_isPreset_306 (by decide) ?_
      refine j_iload C d_RM_isPreset_307 5 rfl ?_
      refine j_imul C d_RM_isPreset_309 ?_
      refine j_iadd C d_RM_isPreset_310 ?_
      refine j_bind (by exact h0) (fun r654 e653 => ?_)
      refine j_callVi C mv_RM_230 [.int (((σ r0 32) + (7 : Int32)) + ((2 : Int32) * a5))] [.int (((256 : Int32) * b4) + a5), .ref (fad F (wtg r0 46))] hr0 (c_RM_wide hr0 (((σ r0 32) + (7 : Int32)) + ((2 : Int32) * a5)) σ e653) rfl rfl (by decide) (Nat.le_of_ble_eq_true rfl) d_RM_isPreset_311 ?_
      refine j_need (by exact h0) (fun g655 => ?_)
      refine j_iast C (tg_11_46 _ hr0) (inb_in g655) d_RM_isPreset_314 (fun σ656 => ?_)
      refine j_iinc (v := (a5 + (1 : Int32))) (lv9 := [(0, .ref (fad F r0)), (1, .int b1), (2, .int b2), (3, .int b3), (4, .int b4), (5, .int (a5 + (1 : Int32)))]) C d_RM_isPreset_315 5 rfl rfl rfl rfl (by decide) ?_
      refine j_goto (tgt := 279) C d_RM_isPreset_318 (by decide) ?_
      exact ih (a5 + (1 : Int32)) σ656
set_option maxHeartbeats 4000000 in
set_option maxRecDepth 100000 in
theorem w_RM_isPreset {F : Fx} (C : Ctx F prog_13_method_41_code 6 "LineFramesModel" (some .boolean) 1 22) {k0 : Nat} (h0k : Is k0 11) (σ : Mem) : J F 6 (cvO cvIM) (f_RM_isPreset k0 σ) σ 0 [(0, .ref (fad F k0))] [] := by
  unfold f_RM_isPreset
  refine j_aload_n C d_RM_isPreset_0 0 rfl ?_
  refine j_aload_n C d_RM_isPreset_1 0 rfl ?_
  refine j_getI C h0k fl_RM_216 rfl d_RM_isPreset_2 ?_
  refine j_iconst (v := (2 : Int32)) C d_RM_isPreset_5 (by decide) ?_
  refine j_iadd C d_RM_isPreset_6 ?_
  refine j_bind rfl (fun r2 e1 => ?_)
  refine j_callVi C mv_RM_230 [.int ((σ k0 32) + (2 : Int32))] [] h0k (c_RM_wide h0k ((σ k0 32) + (2 : Int32)) σ e1) rfl rfl (by decide) (Nat.le_of_ble_eq_true rfl) d_RM_isPreset_7 ?_
  refine j_istore_n (lv9 := [(0, .ref (fad F k0)), (1, .int r2)]) C d_RM_isPreset_10 rfl rfl (by decide) ?_
  refine j_iload_n C d_RM_isPreset_11 1 rfl ?_
  refine j_iconst (v := (3 : Int32)) C d_RM_isPreset_12 (by decide) ?_
  refine j_icmp_ge (tgt := 26) C d_RM_isPreset_13 (by decide) (fun c3 => ?_) (fun c3 => ?_)
  · refine j_aload_n C d_RM_isPreset_26 0 rfl ?_
    refine j_getR C h0k fl_RM_32 rfl d_RM_isPreset_27 ?_
    refine j_aload_n C d_RM_isPreset_30 0 rfl ?_
    refine j_getI C h0k fl_RM_216 rfl d_RM_isPreset_31 ?_
    refine j_iconst (v := (4 : Int32)) C d_RM_isPreset_34 (by decide) ?_
    refine j_iadd C d_RM_isPreset_35 ?_
    refine j_need rfl (fun g4 => ?_)
    refine j_iald C (tg_11_18 _ h0k) (inb_in g4) d_RM_isPreset_36 ?_
    refine j_nm (fun v5 v5_e => ?_)
    refine j_istore_n (lv9 := [(0, .ref (fad F k0)), (1, .int r2), (2, .int v5)]) C d_RM_isPreset_37 rfl rfl (by decide) ?_
    refine j_iload_n C d_RM_isPreset_38 2 rfl ?_
    refine j_iconst (v := (1 : Int32)) C d_RM_isPreset_39 (by decide) ?_
    refine j_join0m 58 (fun _ => [(0, .ref (fad F k0)), (1, .int r2), (2, .int v5)]) (fun _ => []) (fun σ637 => ?_) (fun K638 H639 => ?_)
    · refine j_iload_n C d_RM_isPreset_58 2 rfl ?_
      refine j_iconst (v := (1 : Int32)) C d_RM_isPreset_59 (by decide) ?_
      refine j_icmp_ne (tgt := 152) C d_RM_isPreset_60 (by decide) (fun c640 => ?_) (fun c640 => ?_)
      · refine j_aload_n C d_RM_isPreset_152 0 rfl ?_
        refine j_getI C h0k fl_RM_236 rfl d_RM_isPreset_153 ?_
        refine j_callSi C ms_RM_129 [.int (σ637 k0 36)] [] (c_RM_topOf (σ637 k0 36) σ637) rfl rfl (by decide) (Nat.le_of_ble_eq_true rfl) d_RM_isPreset_156 ?_
        refine j_iconst (v := (1 : Int32)) C d_RM_isPreset_159 (by decide) ?_
        refine j_iadd C d_RM_isPreset_160 ?_
        refine j_nm (fun v641 v641_e => ?_)
        refine j_istore_n (lv9 := [(0, .ref (fad F k0)), (1, .int r2), (2, .int v5), (3, .int v641)]) C d_RM_isPreset_161 rfl rfl (by decide) ?_
        refine j_iload_n C d_RM_isPreset_162 1 rfl ?_
        refine j_iconst (v := (5 : Int32)) C d_RM_isPreset_163 (by decide) ?_
        refine j_iconst (v := (2 : Int32)) C d_RM_isPreset_164 (by decide) ?_
        refine j_iload_n C d_RM_isPreset_165 3 rfl ?_
        refine j_imul C d_RM_isPreset_166 ?_
        refine j_iadd C d_RM_isPreset_167 ?_
        refine j_icmp_eq (tgt := 181) C d_RM_isPreset_168 (by decide) (fun c642 => ?_) (fun c642 => ?_)
        · refine j_aload_n C d_RM_isPreset_181 0 rfl ?_
          refine j_getR C h0k fl_RM_32 rfl d_RM_isPreset_182 ?_
          refine j_aload_n C d_RM_isPreset_185 0 rfl ?_
          refine j_getI C h0k fl_RM_216 rfl d_RM_isPreset_186 ?_
          refine j_iconst (v := (5 : Int32)) C d_RM_isPreset_189 (by decide) ?_
          refine j_iadd C d_RM_isPreset_190 ?_
          refine j_need rfl (fun g643 => ?_)
          refine j_iald C (tg_11_18 _ h0k) (inb_in g643) d_RM_isPreset_191 ?_
          refine j_iconst (v := (1 : Int32)) C d_RM_isPreset_192 (by decide) ?_
          refine j_isub C d_RM_isPreset_193 ?_
          refine j_nm (fun v644 v644_e => ?_)
          refine j_istore (lv9 := [(0, .ref (fad F k0)), (1, .int r2), (2, .int v5), (3, .int v641), (4, .int v644)]) C d_RM_isPreset_194 rfl rfl (by decide) ?_
          refine j_iload C d_RM_isPreset_196 4 rfl ?_
          refine j_iconst (v := (0 : Int32)) C d_RM_isPreset_198 (by decide) ?_
          refine j_aload_n C d_RM_isPreset_199 0 rfl ?_
          refine j_getI C h0k fl_RM_227 rfl d_RM_isPreset_200 ?_
          refine j_iconst (v := (1 : Int32)) C d_RM_isPreset_203 (by decide) ?_
          refine j_isub C d_RM_isPreset_204 ?_
          refine j_callSi C ms_RM_93 [.int v644, .int (0 : Int32), .int ((σ637 k0 37) - (1 : Int32))] [] (c_RM_isIn v644 (0 : Int32) ((σ637 k0 37) - (1 : Int32)) σ637) rfl rfl (by decide) (Nat.le_of_ble_eq_true rfl) d_RM_isPreset_205 ?_
          refine j_if_ne (tgt := 222) C d_RM_isPreset_208 (by decide) (fun c645 => ?_) (fun c645 => ?_)
          · refine j_aload_n C d_RM_isPreset_222 0 rfl ?_
            refine j_getR C h0k fl_RM_59 rfl d_RM_isPreset_223 ?_
            refine j_iload C d_RM_isPreset_226 4 rfl ?_
            refine j_need rfl (fun g646 => ?_)
            refine j_zald C (tg_11_45 _ h0k) (inb_in g646) d_RM_isPreset_228 ?_
            refine j_if_eq (tgt := 242) C d_RM_isPreset_229 (by decide) (fun c647 => ?_) (fun c647 => ?_)
            · refine j_aload_n C d_RM_isPreset_242 0 rfl ?_
              refine j_getR C h0k fl_RM_32 rfl d_RM_isPreset_243 ?_
              refine j_aload_n C d_RM_isPreset_246 0 rfl ?_
              refine j_getI C h0k fl_RM_216 rfl d_RM_isPreset_247 ?_
              refine j_bipush (v := (6 : Int32)) C d_RM_isPreset_250 (by decide) ?_
              refine j_iadd C d_RM_isPreset_252 ?_
              refine j_need rfl (fun g648 => ?_)
              refine j_iald C (tg_11_18 _ h0k) (inb_in g648) d_RM_isPreset_253 ?_
              refine j_iconst (v := (2 : Int32)) C d_RM_isPreset_254 (by decide) ?_
              refine j_icmp_eq (tgt := 268) C d_RM_isPreset_255 (by decide) (fun c649 => ?_) (fun c649 => ?_)
              · refine j_aload_n C d_RM_isPreset_268 0 rfl ?_
                refine j_getR C h0k fl_RM_59 rfl d_RM_isPreset_269 ?_
                refine j_iload C d_RM_isPreset_272 4 rfl ?_
                refine j_iconst (v := (1 : Int32)) C d_RM_isPreset_274 (by decide) ?_
                refine j_need rfl (fun g650 => ?_)
                refine j_zast C (tg_11_45 _ h0k) (inb_in g650) d_RM_isPreset_275 (fun σ651 => ?_)
                refine j_iconst (v := (0 : Int32)) C d_RM_isPreset_276 (by decide) ?_
                refine j_istore (lv9 := [(0, .ref (fad F k0)), (1, .int r2), (2, .int v5), (3, .int v641), (4, .int v644), (5, .int (0 : Int32))]) C d_RM_isPreset_277 rfl rfl (by decide) ?_
                refine j_loop (wL_RM_isPreset_279 C rfl k0 h0k r2 v5 v641 v644 (fun q657 => j_some ?_) 9999 (0 : Int32) σ651)
                refine j_iconst (v := (1 : Int32)) C d_RM_isPreset_321 (by decide) ?_
                exact j_iretz C (fun ρ h => leaf_eq h) (nz01 (Or.inr rfl)) d_RM_isPreset_322
              · refine j_aload_n C d_RM_isPreset_258 0 rfl ?_
                refine j_iconst (v := (4 : Int32)) C d_RM_isPreset_259 (by decide) ?_
                refine j_aload_n C d_RM_isPreset_260 0 rfl ?_
                refine j_getI C h0k fl_RM_216 rfl d_RM_isPreset_261 ?_
                refine j_callVi C mv_RM_219 [.int (4 : Int32), .int (σ637 k0 32)] [] h0k (c_RM_broken h0k (4 : Int32) (σ637 k0 32) σ637) rfl rfl (by decide) (Nat.le_of_ble_eq_true rfl) d_RM_isPreset_264 ?_
                refine j_genIMz (z_RM_broken _ _ _ _) (fun q658 q658_z => ?_)
                exact j_iretz C (fun ρ h => leaf_eq h) (nz01 q658_z) d_RM_isPreset_267
            · refine j_aload_n C d_RM_isPreset_232 0 rfl ?_
              refine j_iconst (v := (5 : Int32)) C d_RM_isPreset_233 (by decide) ?_
              refine j_aload_n C d_RM_isPreset_234 0 rfl ?_
              refine j_getI C h0k fl_RM_216 rfl d_RM_isPreset_235 ?_
              refine j_callVi C mv_RM_219 [.int (5 : Int32), .int (σ637 k0 32)] [] h0k (c_RM_broken h0k (5 : Int32) (σ637 k0 32) σ637) rfl rfl (by decide) (Nat.le_of_ble_eq_true rfl) d_RM_isPreset_238 ?_
              refine j_genIMz (z_RM_broken _ _ _ _) (fun q659 q659_z => ?_)
              exact j_iretz C (fun ρ h => leaf_eq h) (nz01 q659_z) d_RM_isPreset_241
          · refine j_aload_n C d_RM_isPreset_211 0 rfl ?_
            refine j_bipush (v := (6 : Int32)) C d_RM_isPreset_212 (by decide) ?_
            refine j_aload_n C d_RM_isPreset_214 0 rfl ?_
            refine j_getI C h0k fl_RM_216 rfl d_RM_isPreset_215 ?_
            refine j_callVi C mv_RM_219 [.int (6 : Int32), .int (σ637 k0 32)] [] h0k (c_RM_broken h0k (6 : Int32) (σ637 k0 32) σ637) rfl rfl (by decide) (Nat.le_of_ble_eq_true rfl) d_RM_isPreset_218 ?_
            refine j_genIMz (z_RM_broken _ _ _ _) (fun q660 q660_z => ?_)
            exact j_iretz C (fun ρ h => leaf_eq h) (nz01 q660_z) d_RM_isPreset_221
        · refine j_aload_n C d_RM_isPreset_171 0 rfl ?_
          refine j_iconst (v := (3 : Int32)) C d_RM_isPreset_172 (by decide) ?_
          refine j_aload_n C d_RM_isPreset_173 0 rfl ?_
          refine j_getI C h0k fl_RM_216 rfl d_RM_isPreset_174 ?_
          refine j_callVi C mv_RM_219 [.int (3 : Int32), .int (σ637 k0 32)] [] h0k (c_RM_broken h0k (3 : Int32) (σ637 k0 32) σ637) rfl rfl (by decide) (Nat.le_of_ble_eq_true rfl) d_RM_isPreset_177 ?_
          refine j_genIMz (z_RM_broken _ _ _ _) (fun q661 q661_z => ?_)
          exact j_iretz C (fun ρ h => leaf_eq h) (nz01 q661_z) d_RM_isPreset_180
      · refine j_iload_n C d_RM_isPreset_63 1 rfl ?_
        refine j_iconst (v := (5 : Int32)) C d_RM_isPreset_64 (by decide) ?_
        refine j_icmp_eq (tgt := 78) C d_RM_isPreset_65 (by decide) (fun c662 => ?_) (fun c662 => ?_)
        · refine j_aload_n C d_RM_isPreset_78 0 rfl ?_
          refine j_getR C h0k fl_RM_32 rfl d_RM_isPreset_79 ?_
          refine j_aload_n C d_RM_isPreset_82 0 rfl ?_
          refine j_getI C h0k fl_RM_216 rfl d_RM_isPreset_83 ?_
          refine j_iconst (v := (5 : Int32)) C d_RM_isPreset_86 (by decide) ?_
          refine j_iadd C d_RM_isPreset_87 ?_
          refine j_need rfl (fun g663 => ?_)
          refine j_iald C (tg_11_18 _ h0k) (inb_in g663) d_RM_isPreset_88 ?_
          refine j_iconst (v := (3 : Int32)) C d_RM_isPreset_89 (by decide) ?_
          refine j_join0m 109 (fun _ => [(0, .ref (fad F k0)), (1, .int r2), (2, .int v5)]) (fun _ => []) (fun σ677 => ?_) (fun K678 H679 => ?_)
          · refine j_aload_n C d_RM_isPreset_109 0 rfl ?_
            refine j_iconst (v := (4 : Int32)) C d_RM_isPreset_110 (by decide) ?_
            refine j_aload_n C d_RM_isPreset_111 0 rfl ?_
            refine j_getI C h0k fl_RM_216 rfl d_RM_isPreset_112 ?_
            refine j_callVi C mv_RM_219 [.int (4 : Int32), .int (σ677 k0 32)] [] h0k (c_RM_broken h0k (4 : Int32) (σ677 k0 32) σ677) rfl rfl (by decide) (Nat.le_of_ble_eq_true rfl) d_RM_isPreset_115 ?_
            refine j_genIMz (z_RM_broken _ _ _ _) (fun q680 q680_z => ?_)
            exact j_iretz C (fun ρ h => leaf_eq h) (nz01 q680_z) d_RM_isPreset_118
          · refine j_icmp_lt (tgt := 109) C d_RM_isPreset_90 (by decide) (fun c681 => ?_) (fun c681 => ?_)
            · exact H679 σ637
            · refine j_aload_n C d_RM_isPreset_93 0 rfl ?_
              refine j_getR C h0k fl_RM_32 rfl d_RM_isPreset_94 ?_
              refine j_aload_n C d_RM_isPreset_97 0 rfl ?_
              refine j_getI C h0k fl_RM_216 rfl d_RM_isPreset_98 ?_
              refine j_bipush (v := (6 : Int32)) C d_RM_isPreset_101 (by decide) ?_
              refine j_iadd C d_RM_isPreset_103 ?_
              refine j_need rfl (fun g682 => ?_)
              refine j_iald C (tg_11_18 _ h0k) (inb_in g682) d_RM_isPreset_104 ?_
              refine j_iconst (v := (1 : Int32)) C d_RM_isPreset_105 (by decide) ?_
              refine j_icmp_ge (tgt := 119) C d_RM_isPreset_106 (by decide) (fun c683 => ?_) (fun c683 => ?_)
              · refine j_aload_n C d_RM_isPreset_119 0 rfl ?_
                refine j_aload_n C d_RM_isPreset_120 0 rfl ?_
                refine j_getR C h0k fl_RM_32 rfl d_RM_isPreset_121 ?_
                refine j_aload_n C d_RM_isPreset_124 0 rfl ?_
                refine j_getI C h0k fl_RM_216 rfl d_RM_isPreset_125 ?_
                refine j_iconst (v := (5 : Int32)) C d_RM_isPreset_128 (by decide) ?_
                refine j_iadd C d_RM_isPreset_129 ?_
                refine j_need rfl (fun g684 => ?_)
                refine j_iald C (tg_11_18 _ h0k) (inb_in g684) d_RM_isPreset_130 ?_
                refine j_put C h0k fl_RM_245 fw_11_38 rfl rfl rfl d_RM_isPreset_131 (fun σ685 => ?_)
                refine j_aload_n C d_RM_isPreset_134 0 rfl ?_
                refine j_aload_n C d_RM_isPreset_135 0 rfl ?_
                refine j_getR C h0k fl_RM_32 rfl d_RM_isPreset_136 ?_
                refine j_aload_n C d_RM_isPreset_139 0 rfl ?_
                refine j_getI C h0k fl_RM_216 rfl d_RM_isPreset_140 ?_
                refine j_bipush (v := (6 : Int32)) C d_RM_isPreset_143 (by decide) ?_
                refine j_iadd C d_RM_isPreset_145 ?_
                refine j_need rfl (fun g686 => ?_)
                refine j_iald C (tg_11_18 _ h0k) (inb_in g686) d_RM_isPreset_146 ?_
                refine j_put C h0k fl_RM_248 fw_11_39 rfl rfl rfl d_RM_isPreset_147 (fun σ687 => ?_)
                refine j_iconst (v := (1 : Int32)) C d_RM_isPreset_150 (by decide) ?_
                exact j_iretz C (fun ρ h => leaf_eq h) (nz01 (Or.inr rfl)) d_RM_isPreset_151
              · exact H679 σ637
        · refine j_aload_n C d_RM_isPreset_68 0 rfl ?_
          refine j_iconst (v := (3 : Int32)) C d_RM_isPreset_69 (by decide) ?_
          refine j_aload_n C d_RM_isPreset_70 0 rfl ?_
          refine j_getI C h0k fl_RM_216 rfl d_RM_isPreset_71 ?_
          refine j_callVi C mv_RM_219 [.int (3 : Int32), .int (σ637 k0 32)] [] h0k (c_RM_broken h0k (3 : Int32) (σ637 k0 32) σ637) rfl rfl (by decide) (Nat.le_of_ble_eq_true rfl) d_RM_isPreset_74 ?_
          refine j_genIMz (z_RM_broken _ _ _ _) (fun q688 q688_z => ?_)
          exact j_iretz C (fun ρ h => leaf_eq h) (nz01 q688_z) d_RM_isPreset_77
    · refine j_icmp_eq (tgt := 58) C d_RM_isPreset_40 (by decide) (fun c689 => ?_) (fun c689 => ?_)
      · exact H639 σ
      · refine j_iload_n C d_RM_isPreset_43 2 rfl ?_
        refine j_iconst (v := (2 : Int32)) C d_RM_isPreset_44 (by decide) ?_
        refine j_icmp_eq (tgt := 58) C d_RM_isPreset_45 (by decide) (fun c690 => ?_) (fun c690 => ?_)
        · exact H639 σ
        · refine j_aload_n C d_RM_isPreset_48 0 rfl ?_
          refine j_iconst (v := (4 : Int32)) C d_RM_isPreset_49 (by decide) ?_
          refine j_aload_n C d_RM_isPreset_50 0 rfl ?_
          refine j_getI C h0k fl_RM_216 rfl d_RM_isPreset_51 ?_
          refine j_callVi C mv_RM_219 [.int (4 : Int32), .int (σ k0 32)] [] h0k (c_RM_broken h0k (4 : Int32) (σ k0 32) σ) rfl rfl (by decide) (Nat.le_of_ble_eq_true rfl) d_RM_isPreset_54 ?_
          refine j_genIMz (z_RM_broken _ _ _ _) (fun q691 q691_z => ?_)
          exact j_iretz C (fun ρ h => leaf_eq h) (nz01 q691_z) d_RM_isPreset_57
  · refine j_aload_n C d_RM_isPreset_16 0 rfl ?_
    refine j_iconst (v := (3 : Int32)) C d_RM_isPreset_17 (by decide) ?_
    refine j_aload_n C d_RM_isPreset_18 0 rfl ?_
    refine j_getI C h0k fl_RM_216 rfl d_RM_isPreset_19 ?_
    refine j_callVi C mv_RM_219 [.int (3 : Int32), .int (σ k0 32)] [] h0k (c_RM_broken h0k (3 : Int32) (σ k0 32) σ) rfl rfl (by decide) (Nat.le_of_ble_eq_true rfl) d_RM_isPreset_22 ?_
    refine j_genIMz (z_RM_broken _ _ _ _) (fun q692 q692_z => ?_)
    exact j_iretz C (fun ρ h => leaf_eq h) (nz01 q692_z) d_RM_isPreset_25
theorem c_RM_isPreset {l : Launch} {D : va_G} {G : GC} {ad : Nat → Nat} {k0 : Nat} (h0k : Is k0 11) (σ : Mem) {q : Int32 × Mem} (hq : f_RM_isPreset k0 σ = some q) : Ctr l D G ad ⟨"LineFramesModel", "isPreset", "()Z"⟩ prog_13_method_41_code 6 (some .boolean) 1 22 [.ref (ad k0)] σ (.inl (some (.int q.1)), q.2) := ctr_J (cv := (cvO cvIM)) (E := f_RM_isPreset k0 σ) (by decide +kernel) (Nat.le_of_ble_eq_true rfl) (by rw [hq]; rfl) (fun F h C => by subst h; exact w_RM_isPreset C h0k σ)
/-! LineFramesModel isRestart ()Z -/
theorem d_RM_isRestart_0 : decode prog_13_method_42_code 0 = .ok (.aload_n 0, 1) := by decide +kernel
theorem d_RM_isRestart_1 : decode prog_13_method_42_code 1 = .ok (.aload_n 0, 1) := by decide +kernel
theorem d_RM_isRestart_2 : decode prog_13_method_42_code 2 = .ok (.getfield 216, 3) := by decide +kernel
theorem d_RM_isRestart_5 : decode prog_13_method_42_code 5 = .ok (.iconst 2, 1) := by decide +kernel
theorem d_RM_isRestart_6 : decode prog_13_method_42_code 6 = .ok (.iadd, 1) := by decide +kernel
theorem d_RM_isRestart_7 : decode prog_13_method_42_code 7 = .ok (.invokevirtual 230, 3) := by decide +kernel
theorem d_RM_isRestart_10 : decode prog_13_method_42_code 10 = .ok (.iconst 4, 1) := by decide +kernel
theorem d_RM_isRestart_11 : decode prog_13_method_42_code 11 = .ok (.if_icmp .eq 13, 3) := by decide +kernel
theorem d_RM_isRestart_14 : decode prog_13_method_42_code 14 = .ok (.aload_n 0, 1) := by decide +kernel
theorem d_RM_isRestart_15 : decode prog_13_method_42_code 15 = .ok (.iconst 3, 1) := by decide +kernel
theorem d_RM_isRestart_16 : decode prog_13_method_42_code 16 = .ok (.aload_n 0, 1) := by decide +kernel
theorem d_RM_isRestart_17 : decode prog_13_method_42_code 17 = .ok (.getfield 216, 3) := by decide +kernel
theorem d_RM_isRestart_20 : decode prog_13_method_42_code 20 = .ok (.invokevirtual 219, 3) := by decide +kernel
theorem d_RM_isRestart_23 : decode prog_13_method_42_code 23 = .ok (.ireturn, 1) := by decide +kernel
theorem d_RM_isRestart_24 : decode prog_13_method_42_code 24 = .ok (.aload_n 0, 1) := by decide +kernel
theorem d_RM_isRestart_25 : decode prog_13_method_42_code 25 = .ok (.aload_n 0, 1) := by decide +kernel
theorem d_RM_isRestart_26 : decode prog_13_method_42_code 26 = .ok (.getfield 216, 3) := by decide +kernel
theorem d_RM_isRestart_29 : decode prog_13_method_42_code 29 = .ok (.iconst 4, 1) := by decide +kernel
theorem d_RM_isRestart_30 : decode prog_13_method_42_code 30 = .ok (.iadd, 1) := by decide +kernel
theorem d_RM_isRestart_31 : decode prog_13_method_42_code 31 = .ok (.invokevirtual 230, 3) := by decide +kernel
theorem d_RM_isRestart_34 : decode prog_13_method_42_code 34 = .ok (.bipush 12, 2) := by decide +kernel
theorem d_RM_isRestart_36 : decode prog_13_method_42_code 36 = .ok (.if_icmp .le 13, 3) := by decide +kernel
theorem d_RM_isRestart_39 : decode prog_13_method_42_code 39 = .ok (.aload_n 0, 1) := by decide +kernel
theorem d_RM_isRestart_40 : decode prog_13_method_42_code 40 = .ok (.iconst 4, 1) := by decide +kernel
theorem d_RM_isRestart_41 : decode prog_13_method_42_code 41 = .ok (.aload_n 0, 1) := by decide +kernel
theorem d_RM_isRestart_42 : decode prog_13_method_42_code 42 = .ok (.getfield 216, 3) := by decide +kernel
theorem d_RM_isRestart_45 : decode prog_13_method_42_code 45 = .ok (.invokevirtual 219, 3) := by decide +kernel
theorem d_RM_isRestart_48 : decode prog_13_method_42_code 48 = .ok (.ireturn, 1) := by decide +kernel
theorem d_RM_isRestart_49 : decode prog_13_method_42_code 49 = .ok (.aload_n 0, 1) := by decide +kernel
theorem d_RM_isRestart_50 : decode prog_13_method_42_code 50 = .ok (.aload_n 0, 1) := by decide +kernel
theorem d_RM_isRestart_51 : decode prog_13_method_42_code 51 = .ok (.aload_n 0, 1) := by decide +kernel
theorem d_RM_isRestart_52 : decode prog_13_method_42_code 52 = .ok (.getfield 216, 3) := by decide +kernel
theorem d_RM_isRestart_55 : decode prog_13_method_42_code 55 = .ok (.iconst 4, 1) := by decide +kernel
theorem d_RM_isRestart_56 : decode prog_13_method_42_code 56 = .ok (.iadd, 1) := by decide +kernel
theorem d_RM_isRestart_57 : decode prog_13_method_42_code 57 = .ok (.invokevirtual 230, 3) := by decide +kernel
theorem d_RM_isRestart_60 : decode prog_13_method_42_code 60 = .ok (.putfield 251, 3) := by decide +kernel
theorem d_RM_isRestart_63 : decode prog_13_method_42_code 63 = .ok (.iconst 1, 1) := by decide +kernel
theorem d_RM_isRestart_64 : decode prog_13_method_42_code 64 = .ok (.ireturn, 1) := by decide +kernel
def f_RM_isRestart (k0 : Nat) (σ : Mem) : Option (Int32 × Mem) :=
  (f_RM_wide k0 ((σ k0 32) + (2 : Int32)) σ).bind fun r2 =>
  if r2 = (4 : Int32) then
  (f_RM_wide k0 ((σ k0 32) + (4 : Int32)) σ).bind fun r5 =>
  if r5 ≤ (12 : Int32) then
  (f_RM_wide k0 ((σ k0 32) + (4 : Int32)) σ).bind fun r8 =>
  lt (mput σ k0 40 r8) fun σ9 =>
  some ((1 : Int32), σ9)
  else
  lt (f_RM_broken k0 (4 : Int32) (σ k0 32) σ) fun q10 =>
  some (q10.1, q10.2)
  else
  lt (f_RM_broken k0 (3 : Int32) (σ k0 32) σ) fun q11 =>
  some (q11.1, q11.2)
set_option maxHeartbeats 4000000 in
set_option maxRecDepth 100000 in
theorem w_RM_isRestart {F : Fx} (C : Ctx F prog_13_method_42_code 1 "LineFramesModel" (some .boolean) 1 22) {k0 : Nat} (h0k : Is k0 11) (σ : Mem) : J F 1 (cvO cvIM) (f_RM_isRestart k0 σ) σ 0 [(0, .ref (fad F k0))] [] := by
  unfold f_RM_isRestart
  refine j_aload_n C d_RM_isRestart_0 0 rfl ?_
  refine j_aload_n C d_RM_isRestart_1 0 rfl ?_
  refine j_getI C h0k fl_RM_216 rfl d_RM_isRestart_2 ?_
  refine j_iconst (v := (2 : Int32)) C d_RM_isRestart_5 (by decide) ?_
  refine j_iadd C d_RM_isRestart_6 ?_
  refine j_bind rfl (fun r2 e1 => ?_)
  refine j_callVi C mv_RM_230 [.int ((σ k0 32) + (2 : Int32))] [] h0k (c_RM_wide h0k ((σ k0 32) + (2 : Int32)) σ e1) rfl rfl (by decide) (Nat.le_of_ble_eq_true rfl) d_RM_isRestart_7 ?_
  refine j_iconst (v := (4 : Int32)) C d_RM_isRestart_10 (by decide) ?_
  refine j_icmp_eq (tgt := 24) C d_RM_isRestart_11 (by decide) (fun c3 => ?_) (fun c3 => ?_)
  · refine j_aload_n C d_RM_isRestart_24 0 rfl ?_
    refine j_aload_n C d_RM_isRestart_25 0 rfl ?_
    refine j_getI C h0k fl_RM_216 rfl d_RM_isRestart_26 ?_
    refine j_iconst (v := (4 : Int32)) C d_RM_isRestart_29 (by decide) ?_
    refine j_iadd C d_RM_isRestart_30 ?_
    refine j_bind rfl (fun r5 e4 => ?_)
    refine j_callVi C mv_RM_230 [.int ((σ k0 32) + (4 : Int32))] [] h0k (c_RM_wide h0k ((σ k0 32) + (4 : Int32)) σ e4) rfl rfl (by decide) (Nat.le_of_ble_eq_true rfl) d_RM_isRestart_31 ?_
    refine j_bipush (v := (12 : Int32)) C d_RM_isRestart_34 (by decide) ?_
    refine j_icmp_le (tgt := 49) C d_RM_isRestart_36 (by decide) (fun c6 => ?_) (fun c6 => ?_)
    · refine j_aload_n C d_RM_isRestart_49 0 rfl ?_
      refine j_aload_n C d_RM_isRestart_50 0 rfl ?_
      refine j_aload_n C d_RM_isRestart_51 0 rfl ?_
      refine j_getI C h0k fl_RM_216 rfl d_RM_isRestart_52 ?_
      refine j_iconst (v := (4 : Int32)) C d_RM_isRestart_55 (by decide) ?_
      refine j_iadd C d_RM_isRestart_56 ?_
      refine j_bind rfl (fun r8 e7 => ?_)
      refine j_callVi C mv_RM_230 [.int ((σ k0 32) + (4 : Int32))] [.ref (fad F k0)] h0k (c_RM_wide h0k ((σ k0 32) + (4 : Int32)) σ e7) rfl rfl (by decide) (Nat.le_of_ble_eq_true rfl) d_RM_isRestart_57 ?_
      refine j_put C h0k fl_RM_251 fw_11_40 rfl rfl rfl d_RM_isRestart_60 (fun σ9 => ?_)
      refine j_iconst (v := (1 : Int32)) C d_RM_isRestart_63 (by decide) ?_
      exact j_iretz C (fun ρ h => leaf_eq h) (nz01 (Or.inr rfl)) d_RM_isRestart_64
    · refine j_aload_n C d_RM_isRestart_39 0 rfl ?_
      refine j_iconst (v := (4 : Int32)) C d_RM_isRestart_40 (by decide) ?_
      refine j_aload_n C d_RM_isRestart_41 0 rfl ?_
      refine j_getI C h0k fl_RM_216 rfl d_RM_isRestart_42 ?_
      refine j_callVi C mv_RM_219 [.int (4 : Int32), .int (σ k0 32)] [] h0k (c_RM_broken h0k (4 : Int32) (σ k0 32) σ) rfl rfl (by decide) (Nat.le_of_ble_eq_true rfl) d_RM_isRestart_45 ?_
      refine j_genIMz (z_RM_broken _ _ _ _) (fun q10 q10_z => ?_)
      exact j_iretz C (fun ρ h => leaf_eq h) (nz01 q10_z) d_RM_isRestart_48
  · refine j_aload_n C d_RM_isRestart_14 0 rfl ?_
    refine j_iconst (v := (3 : Int32)) C d_RM_isRestart_15 (by decide) ?_
    refine j_aload_n C d_RM_isRestart_16 0 rfl ?_
    refine j_getI C h0k fl_RM_216 rfl d_RM_isRestart_17 ?_
    refine j_callVi C mv_RM_219 [.int (3 : Int32), .int (σ k0 32)] [] h0k (c_RM_broken h0k (3 : Int32) (σ k0 32) σ) rfl rfl (by decide) (Nat.le_of_ble_eq_true rfl) d_RM_isRestart_20 ?_
    refine j_genIMz (z_RM_broken _ _ _ _) (fun q11 q11_z => ?_)
    exact j_iretz C (fun ρ h => leaf_eq h) (nz01 q11_z) d_RM_isRestart_23
theorem c_RM_isRestart {l : Launch} {D : va_G} {G : GC} {ad : Nat → Nat} {k0 : Nat} (h0k : Is k0 11) (σ : Mem) {q : Int32 × Mem} (hq : f_RM_isRestart k0 σ = some q) : Ctr l D G ad ⟨"LineFramesModel", "isRestart", "()Z"⟩ prog_13_method_42_code 1 (some .boolean) 1 22 [.ref (ad k0)] σ (.inl (some (.int q.1)), q.2) := ctr_J (cv := (cvO cvIM)) (E := f_RM_isRestart k0 σ) (by decide +kernel) (Nat.le_of_ble_eq_true rfl) (by rw [hq]; rfl) (fun F h C => by subst h; exact w_RM_isRestart C h0k σ)
