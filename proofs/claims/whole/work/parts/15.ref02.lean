/-! LineFramesModel tell (III)V -/
theorem d_RM_tell_0 : decode prog_13_method_26_code 0 = .ok (.sipush 144, 3) := by decide +kernel
theorem d_RM_tell_3 : decode prog_13_method_26_code 3 = .ok (.iload_n 1, 1) := by decide +kernel
theorem d_RM_tell_4 : decode prog_13_method_26_code 4 = .ok (.imul, 1) := by decide +kernel
theorem d_RM_tell_5 : decode prog_13_method_26_code 5 = .ok (.bipush 12, 2) := by decide +kernel
theorem d_RM_tell_7 : decode prog_13_method_26_code 7 = .ok (.iload_n 3, 1) := by decide +kernel
theorem d_RM_tell_8 : decode prog_13_method_26_code 8 = .ok (.imul, 1) := by decide +kernel
theorem d_RM_tell_9 : decode prog_13_method_26_code 9 = .ok (.iadd, 1) := by decide +kernel
theorem d_RM_tell_10 : decode prog_13_method_26_code 10 = .ok (.iload_n 2, 1) := by decide +kernel
theorem d_RM_tell_11 : decode prog_13_method_26_code 11 = .ok (.iadd, 1) := by decide +kernel
theorem d_RM_tell_12 : decode prog_13_method_26_code 12 = .ok (.istore 4, 2) := by decide +kernel
theorem d_RM_tell_14 : decode prog_13_method_26_code 14 = .ok (.aload_n 0, 1) := by decide +kernel
theorem d_RM_tell_15 : decode prog_13_method_26_code 15 = .ok (.iload_n 1, 1) := by decide +kernel
theorem d_RM_tell_16 : decode prog_13_method_26_code 16 = .ok (.iload_n 2, 1) := by decide +kernel
theorem d_RM_tell_17 : decode prog_13_method_26_code 17 = .ok (.iload_n 3, 1) := by decide +kernel
theorem d_RM_tell_18 : decode prog_13_method_26_code 18 = .ok (.invokevirtual 168, 3) := by decide +kernel
theorem d_RM_tell_21 : decode prog_13_method_26_code 21 = .ok (.istore 5, 2) := by decide +kernel
theorem d_RM_tell_23 : decode prog_13_method_26_code 23 = .ok (.aload_n 0, 1) := by decide +kernel
theorem d_RM_tell_24 : decode prog_13_method_26_code 24 = .ok (.getfield 7, 3) := by decide +kernel
theorem d_RM_tell_27 : decode prog_13_method_26_code 27 = .ok (.iload 4, 2) := by decide +kernel
theorem d_RM_tell_29 : decode prog_13_method_26_code 29 = .ok (.iaload, 1) := by decide +kernel
theorem d_RM_tell_30 : decode prog_13_method_26_code 30 = .ok (.iload 5, 2) := by decide +kernel
theorem d_RM_tell_32 : decode prog_13_method_26_code 32 = .ok (.isub, 1) := by decide +kernel
theorem d_RM_tell_33 : decode prog_13_method_26_code 33 = .ok (.istore 6, 2) := by decide +kernel
theorem d_RM_tell_35 : decode prog_13_method_26_code 35 = .ok (.iload 6, 2) := by decide +kernel
theorem d_RM_tell_37 : decode prog_13_method_26_code 37 = .ok (.ifCond .le 18, 3) := by decide +kernel
theorem d_RM_tell_40 : decode prog_13_method_26_code 40 = .ok (.iload 6, 2) := by decide +kernel
theorem d_RM_tell_42 : decode prog_13_method_26_code 42 = .ok (.aload_n 0, 1) := by decide +kernel
theorem d_RM_tell_43 : decode prog_13_method_26_code 43 = .ok (.getfield 133, 3) := by decide +kernel
theorem d_RM_tell_46 : decode prog_13_method_26_code 46 = .ok (.iadd, 1) := by decide +kernel
theorem d_RM_tell_47 : decode prog_13_method_26_code 47 = .ok (.aload_n 0, 1) := by decide +kernel
theorem d_RM_tell_48 : decode prog_13_method_26_code 48 = .ok (.invokevirtual 139, 3) := by decide +kernel
theorem d_RM_tell_51 : decode prog_13_method_26_code 51 = .ok (.idiv, 1) := by decide +kernel
theorem d_RM_tell_52 : decode prog_13_method_26_code 52 = .ok (.goto 16, 3) := by decide +kernel
theorem d_RM_tell_55 : decode prog_13_method_26_code 55 = .ok (.aload_n 0, 1) := by decide +kernel
theorem d_RM_tell_56 : decode prog_13_method_26_code 56 = .ok (.getfield 133, 3) := by decide +kernel
theorem d_RM_tell_59 : decode prog_13_method_26_code 59 = .ok (.iload 6, 2) := by decide +kernel
theorem d_RM_tell_61 : decode prog_13_method_26_code 61 = .ok (.isub, 1) := by decide +kernel
theorem d_RM_tell_62 : decode prog_13_method_26_code 62 = .ok (.aload_n 0, 1) := by decide +kernel
theorem d_RM_tell_63 : decode prog_13_method_26_code 63 = .ok (.invokevirtual 139, 3) := by decide +kernel
theorem d_RM_tell_66 : decode prog_13_method_26_code 66 = .ok (.idiv, 1) := by decide +kernel
theorem d_RM_tell_67 : decode prog_13_method_26_code 67 = .ok (.ineg, 1) := by decide +kernel
theorem d_RM_tell_68 : decode prog_13_method_26_code 68 = .ok (.istore 7, 2) := by decide +kernel
theorem d_RM_tell_70 : decode prog_13_method_26_code 70 = .ok (.aload_n 0, 1) := by decide +kernel
theorem d_RM_tell_71 : decode prog_13_method_26_code 71 = .ok (.getfield 77, 3) := by decide +kernel
theorem d_RM_tell_74 : decode prog_13_method_26_code 74 = .ok (.iload 4, 2) := by decide +kernel
theorem d_RM_tell_76 : decode prog_13_method_26_code 76 = .ok (.aload_n 0, 1) := by decide +kernel
theorem d_RM_tell_77 : decode prog_13_method_26_code 77 = .ok (.iload 5, 2) := by decide +kernel
theorem d_RM_tell_79 : decode prog_13_method_26_code 79 = .ok (.aload_n 0, 1) := by decide +kernel
theorem d_RM_tell_80 : decode prog_13_method_26_code 80 = .ok (.invokevirtual 139, 3) := by decide +kernel
theorem d_RM_tell_83 : decode prog_13_method_26_code 83 = .ok (.iload 7, 2) := by decide +kernel
theorem d_RM_tell_85 : decode prog_13_method_26_code 85 = .ok (.imul, 1) := by decide +kernel
theorem d_RM_tell_86 : decode prog_13_method_26_code 86 = .ok (.iadd, 1) := by decide +kernel
theorem d_RM_tell_87 : decode prog_13_method_26_code 87 = .ok (.invokevirtual 172, 3) := by decide +kernel
theorem d_RM_tell_90 : decode prog_13_method_26_code 90 = .ok (.iastore, 1) := by decide +kernel
theorem d_RM_tell_91 : decode prog_13_method_26_code 91 = .ok (.iload 7, 2) := by decide +kernel
theorem d_RM_tell_93 : decode prog_13_method_26_code 93 = .ok (.ifCond .ge 13, 3) := by decide +kernel
theorem d_RM_tell_96 : decode prog_13_method_26_code 96 = .ok (.iload 7, 2) := by decide +kernel
theorem d_RM_tell_98 : decode prog_13_method_26_code 98 = .ok (.aload_n 0, 1) := by decide +kernel
theorem d_RM_tell_99 : decode prog_13_method_26_code 99 = .ok (.invokevirtual 175, 3) := by decide +kernel
theorem d_RM_tell_102 : decode prog_13_method_26_code 102 = .ok (.iadd, 1) := by decide +kernel
theorem d_RM_tell_103 : decode prog_13_method_26_code 103 = .ok (.goto 5, 3) := by decide +kernel
theorem d_RM_tell_106 : decode prog_13_method_26_code 106 = .ok (.iload 7, 2) := by decide +kernel
theorem d_RM_tell_108 : decode prog_13_method_26_code 108 = .ok (.istore 7, 2) := by decide +kernel
theorem d_RM_tell_110 : decode prog_13_method_26_code 110 = .ok (.iload 7, 2) := by decide +kernel
theorem d_RM_tell_112 : decode prog_13_method_26_code 112 = .ok (.aload_n 0, 1) := by decide +kernel
theorem d_RM_tell_113 : decode prog_13_method_26_code 113 = .ok (.invokevirtual 175, 3) := by decide +kernel
theorem d_RM_tell_116 : decode prog_13_method_26_code 116 = .ok (.iconst 1, 1) := by decide +kernel
theorem d_RM_tell_117 : decode prog_13_method_26_code 117 = .ok (.iadd, 1) := by decide +kernel
theorem d_RM_tell_118 : decode prog_13_method_26_code 118 = .ok (.iconst 2, 1) := by decide +kernel
theorem d_RM_tell_119 : decode prog_13_method_26_code 119 = .ok (.idiv, 1) := by decide +kernel
theorem d_RM_tell_120 : decode prog_13_method_26_code 120 = .ok (.if_icmp .lt 13, 3) := by decide +kernel
theorem d_RM_tell_123 : decode prog_13_method_26_code 123 = .ok (.iload 7, 2) := by decide +kernel
theorem d_RM_tell_125 : decode prog_13_method_26_code 125 = .ok (.aload_n 0, 1) := by decide +kernel
theorem d_RM_tell_126 : decode prog_13_method_26_code 126 = .ok (.invokevirtual 175, 3) := by decide +kernel
theorem d_RM_tell_129 : decode prog_13_method_26_code 129 = .ok (.isub, 1) := by decide +kernel
theorem d_RM_tell_130 : decode prog_13_method_26_code 130 = .ok (.goto 5, 3) := by decide +kernel
theorem d_RM_tell_133 : decode prog_13_method_26_code 133 = .ok (.iload 7, 2) := by decide +kernel
theorem d_RM_tell_135 : decode prog_13_method_26_code 135 = .ok (.istore 7, 2) := by decide +kernel
theorem d_RM_tell_137 : decode prog_13_method_26_code 137 = .ok (.iload 7, 2) := by decide +kernel
theorem d_RM_tell_139 : decode prog_13_method_26_code 139 = .ok (.ifCond .ge 13, 3) := by decide +kernel
theorem d_RM_tell_142 : decode prog_13_method_26_code 142 = .ok (.bipush (-2), 2) := by decide +kernel
theorem d_RM_tell_144 : decode prog_13_method_26_code 144 = .ok (.iload 7, 2) := by decide +kernel
theorem d_RM_tell_146 : decode prog_13_method_26_code 146 = .ok (.imul, 1) := by decide +kernel
theorem d_RM_tell_147 : decode prog_13_method_26_code 147 = .ok (.iconst 1, 1) := by decide +kernel
theorem d_RM_tell_148 : decode prog_13_method_26_code 148 = .ok (.isub, 1) := by decide +kernel
theorem d_RM_tell_149 : decode prog_13_method_26_code 149 = .ok (.goto 7, 3) := by decide +kernel
theorem d_RM_tell_152 : decode prog_13_method_26_code 152 = .ok (.iconst 2, 1) := by decide +kernel
theorem d_RM_tell_153 : decode prog_13_method_26_code 153 = .ok (.iload 7, 2) := by decide +kernel
theorem d_RM_tell_155 : decode prog_13_method_26_code 155 = .ok (.imul, 1) := by decide +kernel
theorem d_RM_tell_156 : decode prog_13_method_26_code 156 = .ok (.istore 8, 2) := by decide +kernel
theorem d_RM_tell_158 : decode prog_13_method_26_code 158 = .ok (.aload_n 0, 1) := by decide +kernel
theorem d_RM_tell_159 : decode prog_13_method_26_code 159 = .ok (.iload_n 1, 1) := by decide +kernel
theorem d_RM_tell_160 : decode prog_13_method_26_code 160 = .ok (.invokevirtual 178, 3) := by decide +kernel
theorem d_RM_tell_163 : decode prog_13_method_26_code 163 = .ok (.istore 9, 2) := by decide +kernel
theorem d_RM_tell_165 : decode prog_13_method_26_code 165 = .ok (.iload 8, 2) := by decide +kernel
theorem d_RM_tell_167 : decode prog_13_method_26_code 167 = .ok (.iload 9, 2) := by decide +kernel
theorem d_RM_tell_169 : decode prog_13_method_26_code 169 = .ok (.ishr, 1) := by decide +kernel
theorem d_RM_tell_170 : decode prog_13_method_26_code 170 = .ok (.bipush 20, 2) := by decide +kernel
theorem d_RM_tell_172 : decode prog_13_method_26_code 172 = .ok (.if_icmp .ge 11, 3) := by decide +kernel
theorem d_RM_tell_175 : decode prog_13_method_26_code 175 = .ok (.iload 8, 2) := by decide +kernel
theorem d_RM_tell_177 : decode prog_13_method_26_code 177 = .ok (.iload 9, 2) := by decide +kernel
theorem d_RM_tell_179 : decode prog_13_method_26_code 179 = .ok (.ishr, 1) := by decide +kernel
theorem d_RM_tell_180 : decode prog_13_method_26_code 180 = .ok (.goto 5, 3) := by decide +kernel
theorem d_RM_tell_183 : decode prog_13_method_26_code 183 = .ok (.bipush 20, 2) := by decide +kernel
theorem d_RM_tell_185 : decode prog_13_method_26_code 185 = .ok (.istore 10, 2) := by decide +kernel
theorem d_RM_tell_187 : decode prog_13_method_26_code 187 = .ok (.iconst 0, 1) := by decide +kernel
theorem d_RM_tell_188 : decode prog_13_method_26_code 188 = .ok (.istore 11, 2) := by decide +kernel
theorem d_RM_tell_190 : decode prog_13_method_26_code 190 = .ok (.iload 11, 2) := by decide +kernel
theorem d_RM_tell_192 : decode prog_13_method_26_code 192 = .ok (.iload 10, 2) := by decide +kernel
theorem d_RM_tell_194 : decode prog_13_method_26_code 194 = .ok (.if_icmp .ge 14, 3) := by decide +kernel
theorem d_RM_tell_197 : decode prog_13_method_26_code 197 = .ok (.aload_n 0, 1) := by decide +kernel
theorem d_RM_tell_198 : decode prog_13_method_26_code 198 = .ok (.iconst 0, 1) := by decide +kernel
theorem d_RM_tell_199 : decode prog_13_method_26_code 199 = .ok (.invokevirtual 165, 3) := by decide +kernel
theorem d_RM_tell_202 : decode prog_13_method_26_code 202 = .ok (.iinc 11 1, 3) := by decide +kernel
theorem d_RM_tell_205 : decode prog_13_method_26_code 205 = .ok (.goto (-15), 3) := by decide +kernel
theorem d_RM_tell_208 : decode prog_13_method_26_code 208 = .ok (.aload_n 0, 1) := by decide +kernel
theorem d_RM_tell_209 : decode prog_13_method_26_code 209 = .ok (.iconst 1, 1) := by decide +kernel
theorem d_RM_tell_210 : decode prog_13_method_26_code 210 = .ok (.invokevirtual 165, 3) := by decide +kernel
theorem d_RM_tell_213 : decode prog_13_method_26_code 213 = .ok (.iload 10, 2) := by decide +kernel
theorem d_RM_tell_215 : decode prog_13_method_26_code 215 = .ok (.bipush 20, 2) := by decide +kernel
theorem d_RM_tell_217 : decode prog_13_method_26_code 217 = .ok (.if_icmp .ge 14, 3) := by decide +kernel
theorem d_RM_tell_220 : decode prog_13_method_26_code 220 = .ok (.aload_n 0, 1) := by decide +kernel
theorem d_RM_tell_221 : decode prog_13_method_26_code 221 = .ok (.iload 8, 2) := by decide +kernel
theorem d_RM_tell_223 : decode prog_13_method_26_code 223 = .ok (.iload 9, 2) := by decide +kernel
theorem d_RM_tell_225 : decode prog_13_method_26_code 225 = .ok (.invokevirtual 181, 3) := by decide +kernel
theorem d_RM_tell_228 : decode prog_13_method_26_code 228 = .ok (.goto 11, 3) := by decide +kernel
theorem d_RM_tell_231 : decode prog_13_method_26_code 231 = .ok (.aload_n 0, 1) := by decide +kernel
theorem d_RM_tell_232 : decode prog_13_method_26_code 232 = .ok (.iload 8, 2) := by decide +kernel
theorem d_RM_tell_234 : decode prog_13_method_26_code 234 = .ok (.bipush 9, 2) := by decide +kernel
theorem d_RM_tell_236 : decode prog_13_method_26_code 236 = .ok (.invokevirtual 181, 3) := by decide +kernel
theorem d_RM_tell_239 : decode prog_13_method_26_code 239 = .ok (.aload_n 0, 1) := by decide +kernel
theorem d_RM_tell_240 : decode prog_13_method_26_code 240 = .ok (.iload_n 1, 1) := by decide +kernel
theorem d_RM_tell_241 : decode prog_13_method_26_code 241 = .ok (.iload 7, 2) := by decide +kernel
theorem d_RM_tell_243 : decode prog_13_method_26_code 243 = .ok (.aload_n 0, 1) := by decide +kernel
theorem d_RM_tell_244 : decode prog_13_method_26_code 244 = .ok (.getfield 113, 3) := by decide +kernel
theorem d_RM_tell_247 : decode prog_13_method_26_code 247 = .ok (.invokevirtual 185, 3) := by decide +kernel
theorem d_RM_tell_250 : decode prog_13_method_26_code 250 = .ok (.return_, 1) := by decide +kernel
def L_RM_tell_190 (r0 : Nat) (b1 : Int32) (b2 : Int32) (b3 : Int32) (b4 : Int32) (b5 : Int32) (b6 : Int32) (b7 : Int32) (b8 : Int32) (b9 : Int32) (b10 : Int32) : Nat → Int32 → Mem →  Option (Int32 × Mem)
  | 0, _, _ => none
  | n + 1, a11, σ =>
  if b10 ≤ a11 then
  some (a11, σ)
  else
  (f_RM_bit r0 (0 : Int32) σ).bind fun σ493 =>
  L_RM_tell_190 r0 b1 b2 b3 b4 b5 b6 b7 b8 b9 b10 n (a11 + (1 : Int32)) σ493
def f_RM_tell (k0 : Nat) (x1 : Int32) (x2 : Int32) (x3 : Int32) (σ : Mem) : Option (Mem) :=
  lt ((((144 : Int32) * x1) + ((12 : Int32) * x3)) + x2) fun v1 =>
  (f_RM_foretold k0 x1 x2 x3 σ).bind fun r3 =>
  if inb v1 (wln (wtg k0 6)) = true then
  lt (fun (y198 : Int32) => 
  if inb v1 (wln (wtg k0 51)) = true then
  lt (mput σ (wtg k0 51) v1.toNatClampNeg (f_RM_clipped k0 (r3 + ((f_RM_step k0 σ) * y198)) σ)) fun σ202 =>
  lt (fun (y354 : Int32) => 
  (f_RM_range k0 σ202).bind fun r358 =>
  lt (fun (y480 : Int32) => 
  lt (if 0 ≤ y480 then ((2 : Int32) * y480) else (((-2 : Int32) * y480) - (1 : Int32))) fun v485 =>
  (f_RM_lengthOf k0 x1 σ202).bind fun r487 =>
  lt (if (20 : Int32) ≤ (v485 >>> (r487 &&& 31)) then (20 : Int32) else (v485 >>> (r487 &&& 31))) fun v490 =>
  (L_RM_tell_190 k0 x1 x2 x3 v1 r3 ((σ (wtg k0 6) v1.toNatClampNeg) - r3) y480 v485 r487 v490 9999 (0 : Int32) σ202).bind fun q494 =>
  (f_RM_bit k0 (1 : Int32) q494.2).bind fun σ496 =>
  lt (fun  (σ512 : Mem) => 
  (f_RM_count k0 x1 y480 (σ512 k0 9) σ512).bind fun σ516 =>
  some (σ516)) fun K513 =>
  if (20 : Int32) ≤ v490 then
  (f_RM_lowBits k0 v485 (9 : Int32) σ496).bind fun σ519 =>
  K513 σ519
  else
  (f_RM_lowBits k0 v485 r487 σ496).bind fun σ521 =>
  K513 σ521) fun K481 =>
  if y354 < ((r358 + (1 : Int32)) / (2 : Int32)) then
  K481 y354
  else
  (f_RM_range k0 σ202).bind fun r524 =>
  K481 (y354 - r524)) fun K355 =>
  if 0 ≤ y198 then
  K355 y198
  else
  (f_RM_range k0 σ202).bind fun r527 =>
  K355 (y198 + r527)
  else none) fun K199 =>
  if ((σ (wtg k0 6) v1.toNatClampNeg) - r3) ≤ 0 then
  if ((f_RM_step k0 σ) != 0) = true then
  K199 (-(((σ k0 54) - ((σ (wtg k0 6) v1.toNatClampNeg) - r3)) / (f_RM_step k0 σ)))
  else none
  else
  if ((f_RM_step k0 σ) != 0) = true then
  K199 ((((σ (wtg k0 6) v1.toNatClampNeg) - r3) + (σ k0 54)) / (f_RM_step k0 σ))
  else none
  else none
set_option maxHeartbeats 4000000 in
set_option maxRecDepth 100000 in
theorem wL_RM_tell_190 {F : Fx} (C : Ctx F prog_13_method_26_code 12 "LineFramesModel" none 3 65) {cv : Option (Int32 × Mem) → Option Rs} (h0 : cv none = none) (r0 : Nat) (hr0 : Is r0 11) (b1 : Int32) (b2 : Int32) (b3 : Int32) (b4 : Int32) (b5 : Int32) (b6 : Int32) (b7 : Int32) (b8 : Int32) (b9 : Int32) (b10 : Int32) (hex : ∀ q : Int32 × Mem, J F 12 cv (some q) q.2 208 [(0, .ref (fad F r0)), (1, .int b1), (2, .int b2), (3, .int b3), (4, .int b4), (5, .int b5), (6, .int b6), (7, .int b7), (8, .int b8), (9, .int b9), (10, .int b10), (11, .int q.1)] []) : ∀ (n : Nat) (a11 : Int32) (σ : Mem), J F 12 cv (L_RM_tell_190 r0 b1 b2 b3 b4 b5 b6 b7 b8 b9 b10 n a11 σ) σ 190 [(0, .ref (fad F r0)), (1, .int b1), (2, .int b2), (3, .int b3), (4, .int b4), (5, .int b5), (6, .int b6), (7, .int b7), (8, .int b8), (9, .int b9), (10, .int b10), (11, .int a11)] [] := by
  intro n
  induction n with
  | zero => intro a11 σ hE; rw [L_RM_tell_190, h0] at hE; cases hE
  | succ n ih =>
    intro a11 σ
    rw [L_RM_tell_190]
    refine j_iload C d_RM_tell_190 11 rfl ?_
    refine j_iload C d_RM_tell_192 10 rfl ?_
    refine j_icmp_ge (tgt := 208) C d_RM_tell_194 (by decide) (fun c491 => ?_) (fun c491 => ?_)
    · exact hex (a11, σ)
    · refine j_aload_n C d_RM_tell_197 0 rfl ?_
      refine j_iconst (v := (0 : Int32)) C d_RM_tell_198 (by decide) ?_
      refine j_bind (by exact h0) (fun σ493 e492 => ?_)
      refine j_callVv C mv_RM_165 [.int (0 : Int32)] [] hr0 (c_RM_bit hr0 (0 : Int32) σ e492) rfl rfl (by decide) (Nat.le_of_ble_eq_true rfl) d_RM_tell_199 ?_
      refine j_iinc (v := (a11 + (1 : Int32))) (lv9 := [(0, .ref (fad F r0)), (1, .int b1), (2, .int b2), (3, .int b3), (4, .int b4), (5, .int b5), (6, .int b6), (7, .int b7), (8, .int b8), (9, .int b9), (10, .int b10), (11, .int (a11 + (1 : Int32)))]) C d_RM_tell_202 11 rfl rfl rfl rfl (by decide) ?_
      refine j_goto (tgt := 190) C d_RM_tell_205 (by decide) ?_
      exact ih (a11 + (1 : Int32)) σ493
set_option maxHeartbeats 4000000 in
set_option maxRecDepth 100000 in
theorem w_RM_tell {F : Fx} (C : Ctx F prog_13_method_26_code 12 "LineFramesModel" none 3 65) {k0 : Nat} (h0k : Is k0 11) (x1 : Int32) (x2 : Int32) (x3 : Int32) (σ : Mem) : J F 12 (cvO cvM) (f_RM_tell k0 x1 x2 x3 σ) σ 0 [(0, .ref (fad F k0)), (1, .int x1), (2, .int x2), (3, .int x3)] [] := by
  unfold f_RM_tell
  refine j_sipush (v := (144 : Int32)) C d_RM_tell_0 (by decide) ?_
  refine j_iload_n C d_RM_tell_3 1 rfl ?_
  refine j_imul C d_RM_tell_4 ?_
  refine j_bipush (v := (12 : Int32)) C d_RM_tell_5 (by decide) ?_
  refine j_iload_n C d_RM_tell_7 3 rfl ?_
  refine j_imul C d_RM_tell_8 ?_
  refine j_iadd C d_RM_tell_9 ?_
  refine j_iload_n C d_RM_tell_10 2 rfl ?_
  refine j_iadd C d_RM_tell_11 ?_
  refine j_nm (fun v1 v1_e => ?_)
  refine j_istore (lv9 := [(0, .ref (fad F k0)), (1, .int x1), (2, .int x2), (3, .int x3), (4, .int v1)]) C d_RM_tell_12 rfl rfl (by decide) ?_
  refine j_aload_n C d_RM_tell_14 0 rfl ?_
  refine j_iload_n C d_RM_tell_15 1 rfl ?_
  refine j_iload_n C d_RM_tell_16 2 rfl ?_
  refine j_iload_n C d_RM_tell_17 3 rfl ?_
  refine j_bind rfl (fun r3 e2 => ?_)
  refine j_callVi C mv_RM_168 [.int x1, .int x2, .int x3] [] h0k (c_RM_foretold h0k x1 x2 x3 σ e2) rfl rfl (by decide) (Nat.le_of_ble_eq_true rfl) d_RM_tell_18 ?_
  refine j_istore (lv9 := [(0, .ref (fad F k0)), (1, .int x1), (2, .int x2), (3, .int x3), (4, .int v1), (5, .int r3)]) C d_RM_tell_21 rfl rfl (by decide) ?_
  refine j_aload_n C d_RM_tell_23 0 rfl ?_
  refine j_getR C h0k fl_RM_7 rfl d_RM_tell_24 ?_
  refine j_iload C d_RM_tell_27 4 rfl ?_
  refine j_need rfl (fun g4 => ?_)
  refine j_iald C (tg_11_6 _ h0k) (inb_in g4) d_RM_tell_29 ?_
  refine j_iload C d_RM_tell_30 5 rfl ?_
  refine j_isub C d_RM_tell_32 ?_
  refine j_istore (lv9 := [(0, .ref (fad F k0)), (1, .int x1), (2, .int x2), (3, .int x3), (4, .int v1), (5, .int r3), (6, .int ((σ (wtg k0 6) v1.toNatClampNeg) - r3))]) C d_RM_tell_33 rfl rfl (by decide) ?_
  refine j_iload C d_RM_tell_35 6 rfl ?_
  refine j_join1 68 (fun _ => [(0, .ref (fad F k0)), (1, .int x1), (2, .int x2), (3, .int x3), (4, .int v1), (5, .int r3), (6, .int ((σ (wtg k0 6) v1.toNatClampNeg) - r3))]) (fun y198 => [.int y198]) (fun y198 => ?_) (fun K199 H200 => ?_)
  · refine j_istore (lv9 := [(0, .ref (fad F k0)), (1, .int x1), (2, .int x2), (3, .int x3), (4, .int v1), (5, .int r3), (6, .int ((σ (wtg k0 6) v1.toNatClampNeg) - r3)), (7, .int y198)]) C d_RM_tell_68 rfl rfl (by decide) ?_
    refine j_aload_n C d_RM_tell_70 0 rfl ?_
    refine j_getR C h0k fl_RM_77 rfl d_RM_tell_71 ?_
    refine j_iload C d_RM_tell_74 4 rfl ?_
    refine j_aload_n C d_RM_tell_76 0 rfl ?_
    refine j_iload C d_RM_tell_77 5 rfl ?_
    refine j_aload_n C d_RM_tell_79 0 rfl ?_
    refine j_callVi C mv_RM_139 [] [.int r3, .ref (fad F k0), .int v1, .ref (fad F (wtg k0 51))] h0k (c_RM_step h0k σ) rfl rfl (by decide) (Nat.le_of_ble_eq_true rfl) d_RM_tell_80 ?_
    refine j_iload C d_RM_tell_83 7 rfl ?_
    refine j_imul C d_RM_tell_85 ?_
    refine j_iadd C d_RM_tell_86 ?_
    refine j_callVi C mv_RM_172 [.int (r3 + ((f_RM_step k0 σ) * y198))] [.int v1, .ref (fad F (wtg k0 51))] h0k (c_RM_clipped h0k (r3 + ((f_RM_step k0 σ) * y198)) σ) rfl rfl (by decide) (Nat.le_of_ble_eq_true rfl) d_RM_tell_87 ?_
    refine j_need rfl (fun g201 => ?_)
    refine j_iast C (tg_11_51 _ h0k) (inb_in g201) d_RM_tell_90 (fun σ202 => ?_)
    refine j_iload C d_RM_tell_91 7 rfl ?_
    refine j_join1 108 (fun _ => [(0, .ref (fad F k0)), (1, .int x1), (2, .int x2), (3, .int x3), (4, .int v1), (5, .int r3), (6, .int ((σ (wtg k0 6) v1.toNatClampNeg) - r3)), (7, .int y198)]) (fun y354 => [.int y354]) (fun y354 => ?_) (fun K355 H356 => ?_)
    · refine j_istore (lv9 := [(0, .ref (fad F k0)), (1, .int x1), (2, .int x2), (3, .int x3), (4, .int v1), (5, .int r3), (6, .int ((σ (wtg k0 6) v1.toNatClampNeg) - r3)), (7, .int y354)]) C d_RM_tell_108 rfl rfl (by decide) ?_
      refine j_iload C d_RM_tell_110 7 rfl ?_
      refine j_aload_n C d_RM_tell_112 0 rfl ?_
      refine j_bind rfl (fun r358 e357 => ?_)
      refine j_callVi C mv_RM_175 [] [.int y354] h0k (c_RM_range h0k σ202 e357) rfl rfl (by decide) (Nat.le_of_ble_eq_true rfl) d_RM_tell_113 ?_
      refine j_iconst (v := (1 : Int32)) C d_RM_tell_116 (by decide) ?_
      refine j_iadd C d_RM_tell_117 ?_
      refine j_iconst (v := (2 : Int32)) C d_RM_tell_118 (by decide) ?_
      refine j_idiv C d_RM_tell_119 (by decide) ?_
      refine j_join1 135 (fun _ => [(0, .ref (fad F k0)), (1, .int x1), (2, .int x2), (3, .int x3), (4, .int v1), (5, .int r3), (6, .int ((σ (wtg k0 6) v1.toNatClampNeg) - r3)), (7, .int y354)]) (fun y480 => [.int y480]) (fun y480 => ?_) (fun K481 H482 => ?_)
      · refine j_istore (lv9 := [(0, .ref (fad F k0)), (1, .int x1), (2, .int x2), (3, .int x3), (4, .int v1), (5, .int r3), (6, .int ((σ (wtg k0 6) v1.toNatClampNeg) - r3)), (7, .int y480)]) C d_RM_tell_135 rfl rfl (by decide) ?_
        refine j_iload C d_RM_tell_137 7 rfl ?_
        refine d_if_ge (a := ((2 : Int32) * y480)) (b := (((-2 : Int32) * y480) - (1 : Int32))) (jp := 156) (tgt := 152) C d_RM_tell_139 (by decide) (fun c483 k484 => ?_) (fun c483 k484 => ?_) ?_
        · refine j_iconst (v := (2 : Int32)) C d_RM_tell_152 (by decide) ?_
          refine j_iload C d_RM_tell_153 7 rfl ?_
          refine j_imul C d_RM_tell_155 ?_
          exact k484
        · refine j_bipush (v := (-2 : Int32)) C d_RM_tell_142 (by decide) ?_
          refine j_iload C d_RM_tell_144 7 rfl ?_
          refine j_imul C d_RM_tell_146 ?_
          refine j_iconst (v := (1 : Int32)) C d_RM_tell_147 (by decide) ?_
          refine j_isub C d_RM_tell_148 ?_
          refine j_goto (tgt := 156) C d_RM_tell_149 (by decide) ?_
          exact k484
        refine j_nm (fun v485 v485_e => ?_)
        refine j_istore (lv9 := [(0, .ref (fad F k0)), (1, .int x1), (2, .int x2), (3, .int x3), (4, .int v1), (5, .int r3), (6, .int ((σ (wtg k0 6) v1.toNatClampNeg) - r3)), (7, .int y480), (8, .int v485)]) C d_RM_tell_156 rfl rfl (by decide) ?_
        refine j_aload_n C d_RM_tell_158 0 rfl ?_
        refine j_iload_n C d_RM_tell_159 1 rfl ?_
        refine j_bind rfl (fun r487 e486 => ?_)
        refine j_callVi C mv_RM_178 [.int x1] [] h0k (c_RM_lengthOf h0k x1 σ202 e486) rfl rfl (by decide) (Nat.le_of_ble_eq_true rfl) d_RM_tell_160 ?_
        refine j_istore (lv9 := [(0, .ref (fad F k0)), (1, .int x1), (2, .int x2), (3, .int x3), (4, .int v1), (5, .int r3), (6, .int ((σ (wtg k0 6) v1.toNatClampNeg) - r3)), (7, .int y480), (8, .int v485), (9, .int r487)]) C d_RM_tell_163 rfl rfl (by decide) ?_
        refine j_iload C d_RM_tell_165 8 rfl ?_
        refine j_iload C d_RM_tell_167 9 rfl ?_
        refine j_ishr C d_RM_tell_169 ?_
        refine j_bipush (v := (20 : Int32)) C d_RM_tell_170 (by decide) ?_
        refine d_icmp_ge (a := (20 : Int32)) (b := (v485 >>> (r487 &&& 31))) (jp := 185) (tgt := 183) C d_RM_tell_172 (by decide) (fun c488 k489 => ?_) (fun c488 k489 => ?_) ?_
        · refine j_bipush (v := (20 : Int32)) C d_RM_tell_183 (by decide) ?_
          exact k489
        · refine j_iload C d_RM_tell_175 8 rfl ?_
          refine j_iload C d_RM_tell_177 9 rfl ?_
          refine j_ishr C d_RM_tell_179 ?_
          refine j_goto (tgt := 185) C d_RM_tell_180 (by decide) ?_
          exact k489
        refine j_nm (fun v490 v490_e => ?_)
        refine j_istore (lv9 := [(0, .ref (fad F k0)), (1, .int x1), (2, .int x2), (3, .int x3), (4, .int v1), (5, .int r3), (6, .int ((σ (wtg k0 6) v1.toNatClampNeg) - r3)), (7, .int y480), (8, .int v485), (9, .int r487), (10, .int v490)]) C d_RM_tell_185 rfl rfl (by decide) ?_
        refine j_iconst (v := (0 : Int32)) C d_RM_tell_187 (by decide) ?_
        refine j_istore (lv9 := [(0, .ref (fad F k0)), (1, .int x1), (2, .int x2), (3, .int x3), (4, .int v1), (5, .int r3), (6, .int ((σ (wtg k0 6) v1.toNatClampNeg) - r3)), (7, .int y480), (8, .int v485), (9, .int r487), (10, .int v490), (11, .int (0 : Int32))]) C d_RM_tell_188 rfl rfl (by decide) ?_
        refine j_loop (wL_RM_tell_190 C rfl k0 h0k x1 x2 x3 v1 r3 ((σ (wtg k0 6) v1.toNatClampNeg) - r3) y480 v485 r487 v490 (fun q494 => j_some ?_) 9999 (0 : Int32) σ202)
        refine j_aload_n C d_RM_tell_208 0 rfl ?_
        refine j_iconst (v := (1 : Int32)) C d_RM_tell_209 (by decide) ?_
        refine j_bind rfl (fun σ496 e495 => ?_)
        refine j_callVv C mv_RM_165 [.int (1 : Int32)] [] h0k (c_RM_bit h0k (1 : Int32) q494.2 e495) rfl rfl (by decide) (Nat.le_of_ble_eq_true rfl) d_RM_tell_210 ?_
        refine j_iload C d_RM_tell_213 10 rfl ?_
        refine j_bipush (v := (20 : Int32)) C d_RM_tell_215 (by decide) ?_
        refine j_join0m 239 (fun _ => [(0, .ref (fad F k0)), (1, .int x1), (2, .int x2), (3, .int x3), (4, .int v1), (5, .int r3), (6, .int ((σ (wtg k0 6) v1.toNatClampNeg) - r3)), (7, .int y480), (8, .int v485), (9, .int r487), (10, .int v490), (11, .int q494.1)]) (fun _ => []) (fun σ512 => ?_) (fun K513 H514 => ?_)
        · refine j_aload_n C d_RM_tell_239 0 rfl ?_
          refine j_iload_n C d_RM_tell_240 1 rfl ?_
          refine j_iload C d_RM_tell_241 7 rfl ?_
          refine j_aload_n C d_RM_tell_243 0 rfl ?_
          refine j_getI C h0k fl_RM_113 rfl d_RM_tell_244 ?_
          refine j_bind rfl (fun σ516 e515 => ?_)
          refine j_callVv C mv_RM_185 [.int x1, .int y480, .int (σ512 k0 9)] [] h0k (c_RM_count h0k x1 y480 (σ512 k0 9) σ512 e515) rfl rfl (by decide) (Nat.le_of_ble_eq_true rfl) d_RM_tell_247 ?_
          exact j_vret C (fun ρ h => leaf_eq h) d_RM_tell_250
        · refine j_icmp_ge (tgt := 231) C d_RM_tell_217 (by decide) (fun c517 => ?_) (fun c517 => ?_)
          · refine j_aload_n C d_RM_tell_231 0 rfl ?_
            refine j_iload C d_RM_tell_232 8 rfl ?_
            refine j_bipush (v := (9 : Int32)) C d_RM_tell_234 (by decide) ?_
            refine j_bind rfl (fun σ519 e518 => ?_)
            refine j_callVv C mv_RM_181 [.int v485, .int (9 : Int32)] [] h0k (c_RM_lowBits h0k v485 (9 : Int32) σ496 e518) rfl rfl (by decide) (Nat.le_of_ble_eq_true rfl) d_RM_tell_236 ?_
            exact H514 σ519
          · refine j_aload_n C d_RM_tell_220 0 rfl ?_
            refine j_iload C d_RM_tell_221 8 rfl ?_
            refine j_iload C d_RM_tell_223 9 rfl ?_
            refine j_bind rfl (fun σ521 e520 => ?_)
            refine j_callVv C mv_RM_181 [.int v485, .int r487] [] h0k (c_RM_lowBits h0k v485 r487 σ496 e520) rfl rfl (by decide) (Nat.le_of_ble_eq_true rfl) d_RM_tell_225 ?_
            refine j_goto (tgt := 239) C d_RM_tell_228 (by decide) ?_
            exact H514 σ521
      · refine j_icmp_lt (tgt := 133) C d_RM_tell_120 (by decide) (fun c522 => ?_) (fun c522 => ?_)
        · refine j_iload C d_RM_tell_133 7 rfl ?_
          exact H482 y354
        · refine j_iload C d_RM_tell_123 7 rfl ?_
          refine j_aload_n C d_RM_tell_125 0 rfl ?_
          refine j_bind rfl (fun r524 e523 => ?_)
          refine j_callVi C mv_RM_175 [] [.int y354] h0k (c_RM_range h0k σ202 e523) rfl rfl (by decide) (Nat.le_of_ble_eq_true rfl) d_RM_tell_126 ?_
          refine j_isub C d_RM_tell_129 ?_
          refine j_goto (tgt := 135) C d_RM_tell_130 (by decide) ?_
          exact H482 (y354 - r524)
    · refine j_if_ge (tgt := 106) C d_RM_tell_93 (by decide) (fun c525 => ?_) (fun c525 => ?_)
      · refine j_iload C d_RM_tell_106 7 rfl ?_
        exact H356 y198
      · refine j_iload C d_RM_tell_96 7 rfl ?_
        refine j_aload_n C d_RM_tell_98 0 rfl ?_
        refine j_bind rfl (fun r527 e526 => ?_)
        refine j_callVi C mv_RM_175 [] [.int y198] h0k (c_RM_range h0k σ202 e526) rfl rfl (by decide) (Nat.le_of_ble_eq_true rfl) d_RM_tell_99 ?_
        refine j_iadd C d_RM_tell_102 ?_
        refine j_goto (tgt := 108) C d_RM_tell_103 (by decide) ?_
        exact H356 (y198 + r527)
  · refine j_if_le (tgt := 55) C d_RM_tell_37 (by decide) (fun c528 => ?_) (fun c528 => ?_)
    · refine j_aload_n C d_RM_tell_55 0 rfl ?_
      refine j_getI C h0k fl_RM_133 rfl d_RM_tell_56 ?_
      refine j_iload C d_RM_tell_59 6 rfl ?_
      refine j_isub C d_RM_tell_61 ?_
      refine j_aload_n C d_RM_tell_62 0 rfl ?_
      refine j_callVi C mv_RM_139 [] [.int ((σ k0 54) - ((σ (wtg k0 6) v1.toNatClampNeg) - r3))] h0k (c_RM_step h0k σ) rfl rfl (by decide) (Nat.le_of_ble_eq_true rfl) d_RM_tell_63 ?_
      refine j_need rfl (fun g529 => ?_)
      refine j_idiv C d_RM_tell_66 (ne_bne g529) ?_
      refine j_ineg C d_RM_tell_67 ?_
      exact H200 (-(((σ k0 54) - ((σ (wtg k0 6) v1.toNatClampNeg) - r3)) / (f_RM_step k0 σ)))
    · refine j_iload C d_RM_tell_40 6 rfl ?_
      refine j_aload_n C d_RM_tell_42 0 rfl ?_
      refine j_getI C h0k fl_RM_133 rfl d_RM_tell_43 ?_
      refine j_iadd C d_RM_tell_46 ?_
      refine j_aload_n C d_RM_tell_47 0 rfl ?_
      refine j_callVi C mv_RM_139 [] [.int (((σ (wtg k0 6) v1.toNatClampNeg) - r3) + (σ k0 54))] h0k (c_RM_step h0k σ) rfl rfl (by decide) (Nat.le_of_ble_eq_true rfl) d_RM_tell_48 ?_
      refine j_need rfl (fun g530 => ?_)
      refine j_idiv C d_RM_tell_51 (ne_bne g530) ?_
      refine j_goto (tgt := 68) C d_RM_tell_52 (by decide) ?_
      exact H200 ((((σ (wtg k0 6) v1.toNatClampNeg) - r3) + (σ k0 54)) / (f_RM_step k0 σ))
theorem c_RM_tell {l : Launch} {D : va_G} {G : GC} {ad : Nat → Nat} {k0 : Nat} (h0k : Is k0 11) (x1 : Int32) (x2 : Int32) (x3 : Int32) (σ : Mem) {q : Mem} (hq : f_RM_tell k0 x1 x2 x3 σ = some q) : Ctr l D G ad ⟨"LineFramesModel", "tell", "(III)V"⟩ prog_13_method_26_code 12 none 3 65 [.ref (ad k0), .int x1, .int x2, .int x3] σ (.inl none, q) := ctr_J (cv := (cvO cvM)) (E := f_RM_tell k0 x1 x2 x3 σ) (by decide +kernel) (Nat.le_of_ble_eq_true rfl) (by rw [hq]; rfl) (fun F h C => by subst h; exact w_RM_tell C h0k x1 x2 x3 σ)
/-! LineFramesModel fill ()V -/
theorem d_RM_fill_0 : decode prog_13_method_25_code 0 = .ok (.aload_n 0, 1) := by decide +kernel
theorem d_RM_fill_1 : decode prog_13_method_25_code 1 = .ok (.getfield 159, 3) := by decide +kernel
theorem d_RM_fill_4 : decode prog_13_method_25_code 4 = .ok (.ifCond .le 11, 3) := by decide +kernel
theorem d_RM_fill_7 : decode prog_13_method_25_code 7 = .ok (.aload_n 0, 1) := by decide +kernel
theorem d_RM_fill_8 : decode prog_13_method_25_code 8 = .ok (.iconst 0, 1) := by decide +kernel
theorem d_RM_fill_9 : decode prog_13_method_25_code 9 = .ok (.invokevirtual 165, 3) := by decide +kernel
theorem d_RM_fill_12 : decode prog_13_method_25_code 12 = .ok (.goto (-12), 3) := by decide +kernel
theorem d_RM_fill_15 : decode prog_13_method_25_code 15 = .ok (.aload_n 0, 1) := by decide +kernel
theorem d_RM_fill_16 : decode prog_13_method_25_code 16 = .ok (.getfield 162, 3) := by decide +kernel
theorem d_RM_fill_19 : decode prog_13_method_25_code 19 = .ok (.bipush 7, 2) := by decide +kernel
theorem d_RM_fill_21 : decode prog_13_method_25_code 21 = .ok (.if_icmp .ne 8, 3) := by decide +kernel
theorem d_RM_fill_24 : decode prog_13_method_25_code 24 = .ok (.aload_n 0, 1) := by decide +kernel
theorem d_RM_fill_25 : decode prog_13_method_25_code 25 = .ok (.iconst 0, 1) := by decide +kernel
theorem d_RM_fill_26 : decode prog_13_method_25_code 26 = .ok (.invokevirtual 149, 3) := by decide +kernel
theorem d_RM_fill_29 : decode prog_13_method_25_code 29 = .ok (.aload_n 0, 1) := by decide +kernel
theorem d_RM_fill_30 : decode prog_13_method_25_code 30 = .ok (.bipush 8, 2) := by decide +kernel
theorem d_RM_fill_32 : decode prog_13_method_25_code 32 = .ok (.putfield 162, 3) := by decide +kernel
theorem d_RM_fill_35 : decode prog_13_method_25_code 35 = .ok (.return_, 1) := by decide +kernel
def L_RM_fill_0 (r0 : Nat) : Nat → Mem →  Option (Mem)
  | 0, _ => none
  | n + 1, σ =>
  if (σ r0 58) ≤ 0 then
  some σ
  else
  (f_RM_bit r0 (0 : Int32) σ).bind fun σ3 =>
  L_RM_fill_0 r0 n σ3
def f_RM_fill (k0 : Nat) (σ : Mem) : Option (Mem) :=
  (L_RM_fill_0 k0 9999 σ).bind fun q4 =>
  lt (fun  (σ14 : Mem) => 
  lt (mput σ14 k0 59 (8 : Int32)) fun σ17 =>
  some (σ17)) fun K15 =>
  if (q4 k0 59) = (7 : Int32) then
  (f_RM_lay k0 (0 : Int32) q4).bind fun σ20 =>
  K15 σ20
  else
  K15 q4
set_option maxHeartbeats 4000000 in
set_option maxRecDepth 100000 in
theorem wL_RM_fill_0 {F : Fx} (C : Ctx F prog_13_method_25_code 1 "LineFramesModel" none 2 42) {cv : Option (Mem) → Option Rs} (h0 : cv none = none) (r0 : Nat) (hr0 : Is r0 11) (hex : ∀ q : Mem, J F 1 cv (some q) q 15 [(0, .ref (fad F r0))] []) : ∀ (n : Nat) (σ : Mem), J F 1 cv (L_RM_fill_0 r0 n σ) σ 0 [(0, .ref (fad F r0))] [] := by
  intro n
  induction n with
  | zero => intro σ hE; rw [L_RM_fill_0, h0] at hE; cases hE
  | succ n ih =>
    intro σ
    rw [L_RM_fill_0]
    refine j_aload_n C d_RM_fill_0 0 rfl ?_
    refine j_getI C hr0 fl_RM_159 rfl d_RM_fill_1 ?_
    refine j_if_le (tgt := 15) C d_RM_fill_4 (by decide) (fun c1 => ?_) (fun c1 => ?_)
    · exact hex σ
    · refine j_aload_n C d_RM_fill_7 0 rfl ?_
      refine j_iconst (v := (0 : Int32)) C d_RM_fill_8 (by decide) ?_
      refine j_bind (by exact h0) (fun σ3 e2 => ?_)
      refine j_callVv C mv_RM_165 [.int (0 : Int32)] [] hr0 (c_RM_bit hr0 (0 : Int32) σ e2) rfl rfl (by decide) (Nat.le_of_ble_eq_true rfl) d_RM_fill_9 ?_
      refine j_goto (tgt := 0) C d_RM_fill_12 (by decide) ?_
      exact ih σ3
set_option maxHeartbeats 4000000 in
set_option maxRecDepth 100000 in
theorem w_RM_fill {F : Fx} (C : Ctx F prog_13_method_25_code 1 "LineFramesModel" none 2 42) {k0 : Nat} (h0k : Is k0 11) (σ : Mem) : J F 1 (cvO cvM) (f_RM_fill k0 σ) σ 0 [(0, .ref (fad F k0))] [] := by
  unfold f_RM_fill
  refine j_loop (wL_RM_fill_0 C rfl k0 h0k (fun q4 => j_some ?_) 9999 σ)
  refine j_aload_n C d_RM_fill_15 0 rfl ?_
  refine j_getI C h0k fl_RM_162 rfl d_RM_fill_16 ?_
  refine j_bipush (v := (7 : Int32)) C d_RM_fill_19 (by decide) ?_
  refine j_join0m 29 (fun _ => [(0, .ref (fad F k0))]) (fun _ => []) (fun σ14 => ?_) (fun K15 H16 => ?_)
  · refine j_aload_n C d_RM_fill_29 0 rfl ?_
    refine j_bipush (v := (8 : Int32)) C d_RM_fill_30 (by decide) ?_
    refine j_put C h0k fl_RM_162 fw_11_59 rfl rfl rfl d_RM_fill_32 (fun σ17 => ?_)
    exact j_vret C (fun ρ h => leaf_eq h) d_RM_fill_35
  · refine j_icmp_ne (tgt := 29) C d_RM_fill_21 (by decide) (fun c18 => ?_) (fun c18 => ?_)
    · exact H16 q4
    · refine j_aload_n C d_RM_fill_24 0 rfl ?_
      refine j_iconst (v := (0 : Int32)) C d_RM_fill_25 (by decide) ?_
      refine j_bind rfl (fun σ20 e19 => ?_)
      refine j_callVv C mv_RM_149 [.int (0 : Int32)] [] h0k (c_RM_lay h0k (0 : Int32) q4 e19) rfl rfl (by decide) (Nat.le_of_ble_eq_true rfl) d_RM_fill_26 ?_
      exact H16 σ20
theorem c_RM_fill {l : Launch} {D : va_G} {G : GC} {ad : Nat → Nat} {k0 : Nat} (h0k : Is k0 11) (σ : Mem) {q : Mem} (hq : f_RM_fill k0 σ = some q) : Ctr l D G ad ⟨"LineFramesModel", "fill", "()V"⟩ prog_13_method_25_code 1 none 2 42 [.ref (ad k0)] σ (.inl none, q) := ctr_J (cv := (cvO cvM)) (E := f_RM_fill k0 σ) (by decide +kernel) (Nat.le_of_ble_eq_true rfl) (by rw [hq]; rfl) (fun F h C => by subst h; exact w_RM_fill C h0k σ)
/-! LineFramesModel data (III)V -/
theorem d_RM_data_0 : decode prog_13_method_27_code 0 = .ok (.aload_n 0, 1) := by decide +kernel
theorem d_RM_data_1 : decode prog_13_method_27_code 1 = .ok (.iconst 0, 1) := by decide +kernel
theorem d_RM_data_2 : decode prog_13_method_27_code 2 = .ok (.putfield 156, 3) := by decide +kernel
theorem d_RM_data_5 : decode prog_13_method_27_code 5 = .ok (.aload_n 0, 1) := by decide +kernel
theorem d_RM_data_6 : decode prog_13_method_27_code 6 = .ok (.iconst 0, 1) := by decide +kernel
theorem d_RM_data_7 : decode prog_13_method_27_code 7 = .ok (.putfield 159, 3) := by decide +kernel
theorem d_RM_data_10 : decode prog_13_method_27_code 10 = .ok (.aload_n 0, 1) := by decide +kernel
theorem d_RM_data_11 : decode prog_13_method_27_code 11 = .ok (.bipush 8, 2) := by decide +kernel
theorem d_RM_data_13 : decode prog_13_method_27_code 13 = .ok (.putfield 162, 3) := by decide +kernel
theorem d_RM_data_16 : decode prog_13_method_27_code 16 = .ok (.aload_n 0, 1) := by decide +kernel
theorem d_RM_data_17 : decode prog_13_method_27_code 17 = .ok (.iconst 0, 1) := by decide +kernel
theorem d_RM_data_18 : decode prog_13_method_27_code 18 = .ok (.aload_n 0, 1) := by decide +kernel
theorem d_RM_data_19 : decode prog_13_method_27_code 19 = .ok (.getfield 116, 3) := by decide +kernel
theorem d_RM_data_22 : decode prog_13_method_27_code 22 = .ok (.invokevirtual 189, 3) := by decide +kernel
theorem d_RM_data_25 : decode prog_13_method_27_code 25 = .ok (.iconst 0, 1) := by decide +kernel
theorem d_RM_data_26 : decode prog_13_method_27_code 26 = .ok (.istore 4, 2) := by decide +kernel
theorem d_RM_data_28 : decode prog_13_method_27_code 28 = .ok (.iconst 0, 1) := by decide +kernel
theorem d_RM_data_29 : decode prog_13_method_27_code 29 = .ok (.istore 5, 2) := by decide +kernel
theorem d_RM_data_31 : decode prog_13_method_27_code 31 = .ok (.iload 5, 2) := by decide +kernel
theorem d_RM_data_33 : decode prog_13_method_27_code 33 = .ok (.aload_n 0, 1) := by decide +kernel
theorem d_RM_data_34 : decode prog_13_method_27_code 34 = .ok (.getfield 104, 3) := by decide +kernel
theorem d_RM_data_37 : decode prog_13_method_27_code 37 = .ok (.if_icmp .ge 172, 3) := by decide +kernel
theorem d_RM_data_40 : decode prog_13_method_27_code 40 = .ok (.iload_n 3, 1) := by decide +kernel
theorem d_RM_data_41 : decode prog_13_method_27_code 41 = .ok (.iconst 2, 1) := by decide +kernel
theorem d_RM_data_42 : decode prog_13_method_27_code 42 = .ok (.if_icmp .ne 49, 3) := by decide +kernel
theorem d_RM_data_45 : decode prog_13_method_27_code 45 = .ok (.iconst 0, 1) := by decide +kernel
theorem d_RM_data_46 : decode prog_13_method_27_code 46 = .ok (.istore 6, 2) := by decide +kernel
theorem d_RM_data_48 : decode prog_13_method_27_code 48 = .ok (.iload 6, 2) := by decide +kernel
theorem d_RM_data_50 : decode prog_13_method_27_code 50 = .ok (.aload_n 0, 1) := by decide +kernel
theorem d_RM_data_51 : decode prog_13_method_27_code 51 = .ok (.getfield 101, 3) := by decide +kernel
theorem d_RM_data_54 : decode prog_13_method_27_code 54 = .ok (.if_icmp .ge 34, 3) := by decide +kernel
theorem d_RM_data_57 : decode prog_13_method_27_code 57 = .ok (.iload_n 1, 1) := by decide +kernel
theorem d_RM_data_58 : decode prog_13_method_27_code 58 = .ok (.istore 7, 2) := by decide +kernel
theorem d_RM_data_60 : decode prog_13_method_27_code 60 = .ok (.iload 7, 2) := by decide +kernel
theorem d_RM_data_62 : decode prog_13_method_27_code 62 = .ok (.iload_n 2, 1) := by decide +kernel
theorem d_RM_data_63 : decode prog_13_method_27_code 63 = .ok (.if_icmp .ge 19, 3) := by decide +kernel
theorem d_RM_data_66 : decode prog_13_method_27_code 66 = .ok (.aload_n 0, 1) := by decide +kernel
theorem d_RM_data_67 : decode prog_13_method_27_code 67 = .ok (.iload 7, 2) := by decide +kernel
theorem d_RM_data_69 : decode prog_13_method_27_code 69 = .ok (.iload 6, 2) := by decide +kernel
theorem d_RM_data_71 : decode prog_13_method_27_code 71 = .ok (.iload 5, 2) := by decide +kernel
theorem d_RM_data_73 : decode prog_13_method_27_code 73 = .ok (.invokevirtual 192, 3) := by decide +kernel
theorem d_RM_data_76 : decode prog_13_method_27_code 76 = .ok (.iinc 7 1, 3) := by decide +kernel
theorem d_RM_data_79 : decode prog_13_method_27_code 79 = .ok (.goto (-19), 3) := by decide +kernel
theorem d_RM_data_82 : decode prog_13_method_27_code 82 = .ok (.iinc 6 1, 3) := by decide +kernel
theorem d_RM_data_85 : decode prog_13_method_27_code 85 = .ok (.goto (-37), 3) := by decide +kernel
theorem d_RM_data_88 : decode prog_13_method_27_code 88 = .ok (.goto 46, 3) := by decide +kernel
theorem d_RM_data_91 : decode prog_13_method_27_code 91 = .ok (.iload_n 1, 1) := by decide +kernel
theorem d_RM_data_92 : decode prog_13_method_27_code 92 = .ok (.istore 6, 2) := by decide +kernel
theorem d_RM_data_94 : decode prog_13_method_27_code 94 = .ok (.iload 6, 2) := by decide +kernel
theorem d_RM_data_96 : decode prog_13_method_27_code 96 = .ok (.iload_n 2, 1) := by decide +kernel
theorem d_RM_data_97 : decode prog_13_method_27_code 97 = .ok (.if_icmp .ge 37, 3) := by decide +kernel
theorem d_RM_data_100 : decode prog_13_method_27_code 100 = .ok (.iconst 0, 1) := by decide +kernel
theorem d_RM_data_101 : decode prog_13_method_27_code 101 = .ok (.istore 7, 2) := by decide +kernel
theorem d_RM_data_103 : decode prog_13_method_27_code 103 = .ok (.iload 7, 2) := by decide +kernel
theorem d_RM_data_105 : decode prog_13_method_27_code 105 = .ok (.aload_n 0, 1) := by decide +kernel
theorem d_RM_data_106 : decode prog_13_method_27_code 106 = .ok (.getfield 101, 3) := by decide +kernel
theorem d_RM_data_109 : decode prog_13_method_27_code 109 = .ok (.if_icmp .ge 19, 3) := by decide +kernel
theorem d_RM_data_112 : decode prog_13_method_27_code 112 = .ok (.aload_n 0, 1) := by decide +kernel
theorem d_RM_data_113 : decode prog_13_method_27_code 113 = .ok (.iload 6, 2) := by decide +kernel
theorem d_RM_data_115 : decode prog_13_method_27_code 115 = .ok (.iload 7, 2) := by decide +kernel
theorem d_RM_data_117 : decode prog_13_method_27_code 117 = .ok (.iload 5, 2) := by decide +kernel
theorem d_RM_data_119 : decode prog_13_method_27_code 119 = .ok (.invokevirtual 192, 3) := by decide +kernel
theorem d_RM_data_122 : decode prog_13_method_27_code 122 = .ok (.iinc 7 1, 3) := by decide +kernel
theorem d_RM_data_125 : decode prog_13_method_27_code 125 = .ok (.goto (-22), 3) := by decide +kernel
theorem d_RM_data_128 : decode prog_13_method_27_code 128 = .ok (.iinc 6 1, 3) := by decide +kernel
theorem d_RM_data_131 : decode prog_13_method_27_code 131 = .ok (.goto (-37), 3) := by decide +kernel
theorem d_RM_data_134 : decode prog_13_method_27_code 134 = .ok (.aload_n 0, 1) := by decide +kernel
theorem d_RM_data_135 : decode prog_13_method_27_code 135 = .ok (.getfield 119, 3) := by decide +kernel
theorem d_RM_data_138 : decode prog_13_method_27_code 138 = .ok (.ifCond .le 65, 3) := by decide +kernel
theorem d_RM_data_141 : decode prog_13_method_27_code 141 = .ok (.iload 5, 2) := by decide +kernel
theorem d_RM_data_143 : decode prog_13_method_27_code 143 = .ok (.iconst 1, 1) := by decide +kernel
theorem d_RM_data_144 : decode prog_13_method_27_code 144 = .ok (.iadd, 1) := by decide +kernel
theorem d_RM_data_145 : decode prog_13_method_27_code 145 = .ok (.aload_n 0, 1) := by decide +kernel
theorem d_RM_data_146 : decode prog_13_method_27_code 146 = .ok (.getfield 119, 3) := by decide +kernel
theorem d_RM_data_149 : decode prog_13_method_27_code 149 = .ok (.irem, 1) := by decide +kernel
theorem d_RM_data_150 : decode prog_13_method_27_code 150 = .ok (.ifCond .ne 53, 3) := by decide +kernel
theorem d_RM_data_153 : decode prog_13_method_27_code 153 = .ok (.iload 5, 2) := by decide +kernel
theorem d_RM_data_155 : decode prog_13_method_27_code 155 = .ok (.iconst 1, 1) := by decide +kernel
theorem d_RM_data_156 : decode prog_13_method_27_code 156 = .ok (.iadd, 1) := by decide +kernel
theorem d_RM_data_157 : decode prog_13_method_27_code 157 = .ok (.aload_n 0, 1) := by decide +kernel
theorem d_RM_data_158 : decode prog_13_method_27_code 158 = .ok (.getfield 104, 3) := by decide +kernel
theorem d_RM_data_161 : decode prog_13_method_27_code 161 = .ok (.if_icmp .ge 42, 3) := by decide +kernel
theorem d_RM_data_164 : decode prog_13_method_27_code 164 = .ok (.aload_n 0, 1) := by decide +kernel
theorem d_RM_data_165 : decode prog_13_method_27_code 165 = .ok (.invokevirtual 195, 3) := by decide +kernel
theorem d_RM_data_168 : decode prog_13_method_27_code 168 = .ok (.aload_n 0, 1) := by decide +kernel
theorem d_RM_data_169 : decode prog_13_method_27_code 169 = .ok (.sipush 255, 3) := by decide +kernel
theorem d_RM_data_172 : decode prog_13_method_27_code 172 = .ok (.invokevirtual 149, 3) := by decide +kernel
theorem d_RM_data_175 : decode prog_13_method_27_code 175 = .ok (.aload_n 0, 1) := by decide +kernel
theorem d_RM_data_176 : decode prog_13_method_27_code 176 = .ok (.sipush 208, 3) := by decide +kernel
theorem d_RM_data_179 : decode prog_13_method_27_code 179 = .ok (.iload 4, 2) := by decide +kernel
theorem d_RM_data_181 : decode prog_13_method_27_code 181 = .ok (.bipush 8, 2) := by decide +kernel
theorem d_RM_data_183 : decode prog_13_method_27_code 183 = .ok (.irem, 1) := by decide +kernel
theorem d_RM_data_184 : decode prog_13_method_27_code 184 = .ok (.iadd, 1) := by decide +kernel
theorem d_RM_data_185 : decode prog_13_method_27_code 185 = .ok (.invokevirtual 149, 3) := by decide +kernel
theorem d_RM_data_188 : decode prog_13_method_27_code 188 = .ok (.iinc 4 1, 3) := by decide +kernel
theorem d_RM_data_191 : decode prog_13_method_27_code 191 = .ok (.aload_n 0, 1) := by decide +kernel
theorem d_RM_data_192 : decode prog_13_method_27_code 192 = .ok (.iload 5, 2) := by decide +kernel
theorem d_RM_data_194 : decode prog_13_method_27_code 194 = .ok (.iconst 1, 1) := by decide +kernel
theorem d_RM_data_195 : decode prog_13_method_27_code 195 = .ok (.iadd, 1) := by decide +kernel
theorem d_RM_data_196 : decode prog_13_method_27_code 196 = .ok (.aload_n 0, 1) := by decide +kernel
theorem d_RM_data_197 : decode prog_13_method_27_code 197 = .ok (.getfield 116, 3) := by decide +kernel
theorem d_RM_data_200 : decode prog_13_method_27_code 200 = .ok (.invokevirtual 189, 3) := by decide +kernel
theorem d_RM_data_203 : decode prog_13_method_27_code 203 = .ok (.iinc 5 1, 3) := by decide +kernel
theorem d_RM_data_206 : decode prog_13_method_27_code 206 = .ok (.goto (-175), 3) := by decide +kernel
theorem d_RM_data_209 : decode prog_13_method_27_code 209 = .ok (.aload_n 0, 1) := by decide +kernel
theorem d_RM_data_210 : decode prog_13_method_27_code 210 = .ok (.invokevirtual 195, 3) := by decide +kernel
theorem d_RM_data_213 : decode prog_13_method_27_code 213 = .ok (.return_, 1) := by decide +kernel
def L_RM_data_103 (r0 : Nat) (b1 : Int32) (b2 : Int32) (b3 : Int32) (b4 : Int32) (b5 : Int32) (b6 : Int32) : Nat → Int32 → Mem →  Option (Int32 × Mem)
  | 0, _, _ => none
  | n + 1, a7, σ =>
  if (σ r0 2) ≤ a7 then
  some (a7, σ)
  else
  (f_RM_tell r0 b6 a7 b5 σ).bind fun σ112 =>
  L_RM_data_103 r0 b1 b2 b3 b4 b5 b6 n (a7 + (1 : Int32)) σ112
def L_RM_data_94 (r0 : Nat) (b1 : Int32) (b2 : Int32) (b3 : Int32) (b4 : Int32) (b5 : Int32) : Nat → Int32 → Mem →  Option (Int32 × Mem)
  | 0, _, _ => none
  | n + 1, a6, σ =>
  if b2 ≤ a6 then
  some (a6, σ)
  else
  (L_RM_data_103 r0 b1 b2 b3 b4 b5 a6 9999 (0 : Int32) σ).bind fun q113 =>
  L_RM_data_94 r0 b1 b2 b3 b4 b5 n (a6 + (1 : Int32)) q113.2
def L_RM_data_60 (r0 : Nat) (b1 : Int32) (b2 : Int32) (b3 : Int32) (b4 : Int32) (b5 : Int32) (b6 : Int32) : Nat → Int32 → Mem →  Option (Int32 × Mem)
  | 0, _, _ => none
  | n + 1, a7, σ =>
  if b2 ≤ a7 then
  some (a7, σ)
  else
  (f_RM_tell r0 a7 b6 b5 σ).bind fun σ118 =>
  L_RM_data_60 r0 b1 b2 b3 b4 b5 b6 n (a7 + (1 : Int32)) σ118
def L_RM_data_48 (r0 : Nat) (b1 : Int32) (b2 : Int32) (b3 : Int32) (b4 : Int32) (b5 : Int32) : Nat → Int32 → Mem →  Option (Int32 × Mem)
  | 0, _, _ => none
  | n + 1, a6, σ =>
  if (σ r0 2) ≤ a6 then
  some (a6, σ)
  else
  (L_RM_data_60 r0 b1 b2 b3 b4 b5 a6 9999 b1 σ).bind fun q119 =>
  L_RM_data_48 r0 b1 b2 b3 b4 b5 n (a6 + (1 : Int32)) q119.2
def L_RM_data_31 (r0 : Nat) (b1 : Int32) (b2 : Int32) (b3 : Int32) : Nat → Int32 → Int32 → Mem →  Option (Int32 × Int32 × Mem)
  | 0, _, _, _ => none
  | n + 1, a4, a5, σ =>
  if (σ r0 3) ≤ a5 then
  some (a4, a5, σ)
  else
  lt (fun (y84 : Int32) (σ85 : Mem) => 
  lt (fun (y93 : Int32) (σ94 : Mem) => 
  L_RM_data_31 r0 b1 b2 b3 n y93 (a5 + (1 : Int32)) σ94) fun K95 =>
  if (σ85 r0 11) ≤ 0 then
  K95 a4 σ85
  else
  if ((a5 + (1 : Int32)) - (a5 + (1 : Int32)) / (σ85 r0 11) * (σ85 r0 11)) = 0 then
  if (σ85 r0 3) ≤ (a5 + (1 : Int32)) then
  K95 a4 σ85
  else
  (f_RM_fill r0 σ85).bind fun σ101 =>
  (f_RM_lay r0 (255 : Int32) σ101).bind fun σ103 =>
  (f_RM_lay r0 ((208 : Int32) + (a4 - a4 / (8 : Int32) * (8 : Int32))) σ103).bind fun σ105 =>
  (f_RM_begin r0 (a5 + (1 : Int32)) (σ105 r0 10) σ105).bind fun σ107 =>
  K95 (a4 + (1 : Int32)) σ107
  else
  K95 a4 σ85) fun K86 =>
  if b3 = (2 : Int32) then
  (L_RM_data_48 r0 b1 b2 b3 a4 a5 9999 (0 : Int32) σ).bind fun q120 =>
  K86 q120.1 q120.2
  else
  (L_RM_data_94 r0 b1 b2 b3 a4 a5 9999 b1 σ).bind fun q114 =>
  K86 q114.1 q114.2
def f_RM_data (k0 : Nat) (x1 : Int32) (x2 : Int32) (x3 : Int32) (σ : Mem) : Option (Mem) :=
  lt (mput σ k0 57 (0 : Int32)) fun σ1 =>
  lt (mput σ1 k0 58 (0 : Int32)) fun σ2 =>
  lt (mput σ2 k0 59 (8 : Int32)) fun σ3 =>
  (f_RM_begin k0 (0 : Int32) (σ3 k0 10) σ3).bind fun σ5 =>
  (L_RM_data_31 k0 x1 x2 x3 9999 (0 : Int32) (0 : Int32) σ5).bind fun q121 =>
  (f_RM_fill k0 q121.2.2).bind fun σ123 =>
  some (σ123)
set_option maxHeartbeats 4000000 in
set_option maxRecDepth 100000 in
theorem wL_RM_data_103 {F : Fx} (C : Ctx F prog_13_method_27_code 8 "LineFramesModel" none 4 96) {cv : Option (Int32 × Mem) → Option Rs} (h0 : cv none = none) (r0 : Nat) (hr0 : Is r0 11) (b1 : Int32) (b2 : Int32) (b3 : Int32) (b4 : Int32) (b5 : Int32) (b6 : Int32) (hex : ∀ q : Int32 × Mem, J F 8 cv (some q) q.2 128 [(0, .ref (fad F r0)), (1, .int b1), (2, .int b2), (3, .int b3), (4, .int b4), (5, .int b5), (6, .int b6), (7, .int q.1)] []) : ∀ (n : Nat) (a7 : Int32) (σ : Mem), J F 8 cv (L_RM_data_103 r0 b1 b2 b3 b4 b5 b6 n a7 σ) σ 103 [(0, .ref (fad F r0)), (1, .int b1), (2, .int b2), (3, .int b3), (4, .int b4), (5, .int b5), (6, .int b6), (7, .int a7)] [] := by
  intro n
  induction n with
  | zero => intro a7 σ hE; rw [L_RM_data_103, h0] at hE; cases hE
  | succ n ih =>
    intro a7 σ
    rw [L_RM_data_103]
    refine j_iload C d_RM_data_103 7 rfl ?_
    refine j_aload_n C d_RM_data_105 0 rfl ?_
    refine j_getI C hr0 fl_RM_101 rfl d_RM_data_106 ?_
    refine j_icmp_ge (tgt := 128) C d_RM_data_109 (by decide) (fun c110 => ?_) (fun c110 => ?_)
    · exact hex (a7, σ)
    · refine j_aload_n C d_RM_data_112 0 rfl ?_
      refine j_iload C d_RM_data_113 6 rfl ?_
      refine j_iload C d_RM_data_115 7 rfl ?_
      refine j_iload C d_RM_data_117 5 rfl ?_
      refine j_bind (by exact h0) (fun σ112 e111 => ?_)
      refine j_callVv C mv_RM_192 [.int b6, .int a7, .int b5] [] hr0 (c_RM_tell hr0 b6 a7 b5 σ e111) rfl rfl (by decide) (Nat.le_of_ble_eq_true rfl) d_RM_data_119 ?_
      refine j_iinc (v := (a7 + (1 : Int32))) (lv9 := [(0, .ref (fad F r0)), (1, .int b1), (2, .int b2), (3, .int b3), (4, .int b4), (5, .int b5), (6, .int b6), (7, .int (a7 + (1 : Int32)))]) C d_RM_data_122 7 rfl rfl rfl rfl (by decide) ?_
      refine j_goto (tgt := 103) C d_RM_data_125 (by decide) ?_
      exact ih (a7 + (1 : Int32)) σ112
set_option maxHeartbeats 4000000 in
set_option maxRecDepth 100000 in
theorem wL_RM_data_94 {F : Fx} (C : Ctx F prog_13_method_27_code 8 "LineFramesModel" none 4 96) {cv : Option (Int32 × Mem) → Option Rs} (h0 : cv none = none) (r0 : Nat) (hr0 : Is r0 11) (b1 : Int32) (b2 : Int32) (b3 : Int32) (b4 : Int32) (b5 : Int32) (hex : ∀ q : Int32 × Mem, J F 8 cv (some q) q.2 134 [(0, .ref (fad F r0)), (1, .int b1), (2, .int b2), (3, .int b3), (4, .int b4), (5, .int b5), (6, .int q.1)] []) : ∀ (n : Nat) (a6 : Int32) (σ : Mem), J F 8 cv (L_RM_data_94 r0 b1 b2 b3 b4 b5 n a6 σ) σ 94 [(0, .ref (fad F r0)), (1, .int b1), (2, .int b2), (3, .int b3), (4, .int b4), (5, .int b5), (6, .int a6)] [] := by
  intro n
  induction n with
  | zero => intro a6 σ hE; rw [L_RM_data_94, h0] at hE; cases hE
  | succ n ih =>
    intro a6 σ
    rw [L_RM_data_94]
    refine j_iload C d_RM_data_94 6 rfl ?_
    refine j_iload_n C d_RM_data_96 2 rfl ?_
    refine j_icmp_ge (tgt := 134) C d_RM_data_97 (by decide) (fun c109 => ?_) (fun c109 => ?_)
    · exact hex (a6, σ)
    · refine j_iconst (v := (0 : Int32)) C d_RM_data_100 (by decide) ?_
      refine j_istore (lv9 := [(0, .ref (fad F r0)), (1, .int b1), (2, .int b2), (3, .int b3), (4, .int b4), (5, .int b5), (6, .int a6), (7, .int (0 : Int32))]) C d_RM_data_101 rfl rfl (by decide) ?_
      refine j_loop (wL_RM_data_103 C (by exact h0) r0 hr0 b1 b2 b3 b4 b5 a6 (fun q113 => j_some ?_) 9999 (0 : Int32) σ)
      refine j_iinc (v := (a6 + (1 : Int32))) (lv9 := [(0, .ref (fad F r0)), (1, .int b1), (2, .int b2), (3, .int b3), (4, .int b4), (5, .int b5), (6, .int (a6 + (1 : Int32))), (7, .int q113.1)]) C d_RM_data_128 6 rfl rfl rfl rfl (by decide) ?_
      refine j_goto (tgt := 94) C d_RM_data_131 (by decide) ?_
      refine j_sub (lv9 := [(0, .ref (fad F r0)), (1, .int b1), (2, .int b2), (3, .int b3), (4, .int b4), (5, .int b5), (6, .int (a6 + (1 : Int32)))]) [0, 1, 2, 3, 4, 5, 6] rfl ?_
      exact ih (a6 + (1 : Int32)) q113.2
set_option maxHeartbeats 4000000 in
set_option maxRecDepth 100000 in
theorem wL_RM_data_60 {F : Fx} (C : Ctx F prog_13_method_27_code 8 "LineFramesModel" none 4 96) {cv : Option (Int32 × Mem) → Option Rs} (h0 : cv none = none) (r0 : Nat) (hr0 : Is r0 11) (b1 : Int32) (b2 : Int32) (b3 : Int32) (b4 : Int32) (b5 : Int32) (b6 : Int32) (hex : ∀ q : Int32 × Mem, J F 8 cv (some q) q.2 82 [(0, .ref (fad F r0)), (1, .int b1), (2, .int b2), (3, .int b3), (4, .int b4), (5, .int b5), (6, .int b6), (7, .int q.1)] []) : ∀ (n : Nat) (a7 : Int32) (σ : Mem), J F 8 cv (L_RM_data_60 r0 b1 b2 b3 b4 b5 b6 n a7 σ) σ 60 [(0, .ref (fad F r0)), (1, .int b1), (2, .int b2), (3, .int b3), (4, .int b4), (5, .int b5), (6, .int b6), (7, .int a7)] [] := by
  intro n
  induction n with
  | zero => intro a7 σ hE; rw [L_RM_data_60, h0] at hE; cases hE
  | succ n ih =>
    intro a7 σ
    rw [L_RM_data_60]
    refine j_iload C d_RM_data_60 7 rfl ?_
    refine j_iload_n C d_RM_data_62 2 rfl ?_
    refine j_icmp_ge (tgt := 82) C d_RM_data_63 (by decide) (fun c116 => ?_) (fun c116 => ?_)
    · exact hex (a7, σ)
    · refine j_aload_n C d_RM_data_66 0 rfl ?_
      refine j_iload C d_RM_data_67 7 rfl ?_
      refine j_iload C d_RM_data_69 6 rfl ?_
      refine j_iload C d_RM_data_71 5 rfl ?_
      refine j_bind (by exact h0) (fun σ118 e117 => ?_)
      refine j_callVv C mv_RM_192 [.int a7, .int b6, .int b5] [] hr0 (c_RM_tell hr0 a7 b6 b5 σ e117) rfl rfl (by decide) (Nat.le_of_ble_eq_true rfl) d_RM_data_73 ?_
      refine j_iinc (v := (a7 + (1 : Int32))) (lv9 := [(0, .ref (fad F r0)), (1, .int b1), (2, .int b2), (3, .int b3), (4, .int b4), (5, .int b5), (6, .int b6), (7, .int (a7 + (1 : Int32)))]) C d_RM_data_76 7 rfl rfl rfl rfl (by decide) ?_
      refine j_goto (tgt := 60) C d_RM_data_79 (by decide) ?_
      exact ih (a7 + (1 : Int32)) σ118
set_option maxHeartbeats 4000000 in
set_option maxRecDepth 100000 in
theorem wL_RM_data_48 {F : Fx} (C : Ctx F prog_13_method_27_code 8 "LineFramesModel" none 4 96) {cv : Option (Int32 × Mem) → Option Rs} (h0 : cv none = none) (r0 : Nat) (hr0 : Is r0 11) (b1 : Int32) (b2 : Int32) (b3 : Int32) (b4 : Int32) (b5 : Int32) (hex : ∀ q : Int32 × Mem, J F 8 cv (some q) q.2 88 [(0, .ref (fad F r0)), (1, .int b1), (2, .int b2), (3, .int b3), (4, .int b4), (5, .int b5), (6, .int q.1)] []) : ∀ (n : Nat) (a6 : Int32) (σ : Mem), J F 8 cv (L_RM_data_48 r0 b1 b2 b3 b4 b5 n a6 σ) σ 48 [(0, .ref (fad F r0)), (1, .int b1), (2, .int b2), (3, .int b3), (4, .int b4), (5, .int b5), (6, .int a6)] [] := by
  intro n
  induction n with
  | zero => intro a6 σ hE; rw [L_RM_data_48, h0] at hE; cases hE
  | succ n ih =>
    intro a6 σ
    rw [L_RM_data_48]
    refine j_iload C d_RM_data_48 6 rfl ?_
    refine j_aload_n C d_RM_data_50 0 rfl ?_
    refine j_getI C hr0 fl_RM_101 rfl d_RM_data_51 ?_
    refine j_icmp_ge (tgt := 88) C d_RM_data_54 (by decide) (fun c115 => ?_) (fun c115 => ?_)
    · exact hex (a6, σ)
    · refine j_iload_n C d_RM_data_57 1 rfl ?_
      refine j_istore (lv9 := [(0, .ref (fad F r0)), (1, .int b1), (2, .int b2), (3, .int b3), (4, .int b4), (5, .int b5), (6, .int a6), (7, .int b1)]) C d_RM_data_58 rfl rfl (by decide) ?_
      refine j_loop (wL_RM_data_60 C (by exact h0) r0 hr0 b1 b2 b3 b4 b5 a6 (fun q119 => j_some ?_) 9999 b1 σ)
      refine j_iinc (v := (a6 + (1 : Int32))) (lv9 := [(0, .ref (fad F r0)), (1, .int b1), (2, .int b2), (3, .int b3), (4, .int b4), (5, .int b5), (6, .int (a6 + (1 : Int32))), (7, .int q119.1)]) C d_RM_data_82 6 rfl rfl rfl rfl (by decide) ?_
      refine j_goto (tgt := 48) C d_RM_data_85 (by decide) ?_
      refine j_sub (lv9 := [(0, .ref (fad F r0)), (1, .int b1), (2, .int b2), (3, .int b3), (4, .int b4), (5, .int b5), (6, .int (a6 + (1 : Int32)))]) [0, 1, 2, 3, 4, 5, 6] rfl ?_
      exact ih (a6 + (1 : Int32)) q119.2
set_option maxHeartbeats 4000000 in
set_option maxRecDepth 100000 in
theorem wL_RM_data_31 {F : Fx} (C : Ctx F prog_13_method_27_code 8 "LineFramesModel" none 4 96) {cv : Option (Int32 × Int32 × Mem) → Option Rs} (h0 : cv none = none) (r0 : Nat) (hr0 : Is r0 11) (b1 : Int32) (b2 : Int32) (b3 : Int32) (hex : ∀ q : Int32 × Int32 × Mem, J F 8 cv (some q) q.2.2 209 [(0, .ref (fad F r0)), (1, .int b1), (2, .int b2), (3, .int b3), (4, .int q.1), (5, .int q.2.1)] []) : ∀ (n : Nat) (a4 : Int32) (a5 : Int32) (σ : Mem), J F 8 cv (L_RM_data_31 r0 b1 b2 b3 n a4 a5 σ) σ 31 [(0, .ref (fad F r0)), (1, .int b1), (2, .int b2), (3, .int b3), (4, .int a4), (5, .int a5)] [] := by
  intro n
  induction n with
  | zero => intro a4 a5 σ hE; rw [L_RM_data_31, h0] at hE; cases hE
  | succ n ih =>
    intro a4 a5 σ
    rw [L_RM_data_31]
    refine j_iload C d_RM_data_31 5 rfl ?_
    refine j_aload_n C d_RM_data_33 0 rfl ?_
    refine j_getI C hr0 fl_RM_104 rfl d_RM_data_34 ?_
    refine j_icmp_ge (tgt := 209) C d_RM_data_37 (by decide) (fun c6 => ?_) (fun c6 => ?_)
    · exact hex (a4, a5, σ)
    · refine j_iload_n C d_RM_data_40 3 rfl ?_
      refine j_iconst (v := (2 : Int32)) C d_RM_data_41 (by decide) ?_
      refine j_join1m 134 (fun y84 _ => [(0, .ref (fad F r0)), (1, .int b1), (2, .int b2), (3, .int b3), (4, .int a4), (5, .int a5), (6, .int y84)]) (fun _ _ => []) (fun y84 σ85 => ?_) (fun K86 H87 => ?_)
      · refine j_aload_n C d_RM_data_134 0 rfl ?_
        refine j_getI C hr0 fl_RM_119 rfl d_RM_data_135 ?_
        refine j_join1m 203 (fun y93 _ => [(0, .ref (fad F r0)), (1, .int b1), (2, .int b2), (3, .int b3), (4, .int y93), (5, .int a5), (6, .int y84)]) (fun _ _ => []) (fun y93 σ94 => ?_) (fun K95 H96 => ?_)
        · refine j_iinc (v := (a5 + (1 : Int32))) (lv9 := [(0, .ref (fad F r0)), (1, .int b1), (2, .int b2), (3, .int b3), (4, .int y93), (5, .int (a5 + (1 : Int32))), (6, .int y84)]) C d_RM_data_203 5 rfl rfl rfl rfl (by decide) ?_
          refine j_goto (tgt := 31) C d_RM_data_206 (by decide) ?_
          refine j_sub (lv9 := [(0, .ref (fad F r0)), (1, .int b1), (2, .int b2), (3, .int b3), (4, .int y93), (5, .int (a5 + (1 : Int32)))]) [0, 1, 2, 3, 4, 5] rfl ?_
          exact ih y93 (a5 + (1 : Int32)) σ94
        · refine j_if_le (tgt := 203) C d_RM_data_138 (by decide) (fun c97 => ?_) (fun c97 => ?_)
          · exact H96 a4 σ85
          · refine j_iload C d_RM_data_141 5 rfl ?_
            refine j_iconst (v := (1 : Int32)) C d_RM_data_143 (by decide) ?_
            refine j_iadd C d_RM_data_144 ?_
            refine j_aload_n C d_RM_data_145 0 rfl ?_
            refine j_getI C hr0 fl_RM_119 rfl d_RM_data_146 ?_
            refine j_irem C d_RM_data_149 (ne_pos c97) ?_
            refine j_if_ne (tgt := 203) C d_RM_data_150 (by decide) (fun c98 => ?_) (fun c98 => ?_)
            · exact H96 a4 σ85
            · refine j_iload C d_RM_data_153 5 rfl ?_
              refine j_iconst (v := (1 : Int32)) C d_RM_data_155 (by decide) ?_
              refine j_iadd C d_RM_data_156 ?_
              refine j_aload_n C d_RM_data_157 0 rfl ?_
              refine j_getI C hr0 fl_RM_104 rfl d_RM_data_158 ?_
              refine j_icmp_ge (tgt := 203) C d_RM_data_161 (by decide) (fun c99 => ?_) (fun c99 => ?_)
              · exact H96 a4 σ85
              · refine j_aload_n C d_RM_data_164 0 rfl ?_
                refine j_bind (by exact h0) (fun σ101 e100 => ?_)
                refine j_callVv C mv_RM_195 [] [] hr0 (c_RM_fill hr0 σ85 e100) rfl rfl (by decide) (Nat.le_of_ble_eq_true rfl) d_RM_data_165 ?_
                refine j_aload_n C d_RM_data_168 0 rfl ?_
                refine j_sipush (v := (255 : Int32)) C d_RM_data_169 (by decide) ?_
                refine j_bind (by exact h0) (fun σ103 e102 => ?_)
                refine j_callVv C mv_RM_149 [.int (255 : Int32)] [] hr0 (c_RM_lay hr0 (255 : Int32) σ101 e102) rfl rfl (by decide) (Nat.le_of_ble_eq_true rfl) d_RM_data_172 ?_
                refine j_aload_n C d_RM_data_175 0 rfl ?_
                refine j_sipush (v := (208 : Int32)) C d_RM_data_176 (by decide) ?_
                refine j_iload C d_RM_data_179 4 rfl ?_
                refine j_bipush (v := (8 : Int32)) C d_RM_data_181 (by decide) ?_
                refine j_irem C d_RM_data_183 (by decide) ?_
                refine j_iadd C d_RM_data_184 ?_
                refine j_bind (by exact h0) (fun σ105 e104 => ?_)
                refine j_callVv C mv_RM_149 [.int ((208 : Int32) + (a4 - a4 / (8 : Int32) * (8 : Int32)))] [] hr0 (c_RM_lay hr0 ((208 : Int32) + (a4 - a4 / (8 : Int32) * (8 : Int32))) σ103 e104) rfl rfl (by decide) (Nat.le_of_ble_eq_true rfl) d_RM_data_185 ?_
                refine j_iinc (v := (a4 + (1 : Int32))) (lv9 := [(0, .ref (fad F r0)), (1, .int b1), (2, .int b2), (3, .int b3), (4, .int (a4 + (1 : Int32))), (5, .int a5), (6, .int y84)]) C d_RM_data_188 4 rfl rfl rfl rfl (by decide) ?_
                refine j_aload_n C d_RM_data_191 0 rfl ?_
                refine j_iload C d_RM_data_192 5 rfl ?_
                refine j_iconst (v := (1 : Int32)) C d_RM_data_194 (by decide) ?_
                refine j_iadd C d_RM_data_195 ?_
                refine j_aload_n C d_RM_data_196 0 rfl ?_
                refine j_getI C hr0 fl_RM_116 rfl d_RM_data_197 ?_
                refine j_bind (by exact h0) (fun σ107 e106 => ?_)
                refine j_callVv C mv_RM_189 [.int (a5 + (1 : Int32)), .int (σ105 r0 10)] [] hr0 (c_RM_begin hr0 (a5 + (1 : Int32)) (σ105 r0 10) σ105 e106) rfl rfl (by decide) (Nat.le_of_ble_eq_true rfl) d_RM_data_200 ?_
                exact H96 (a4 + (1 : Int32)) σ107
      · refine j_icmp_ne (tgt := 91) C d_RM_data_42 (by decide) (fun c108 => ?_) (fun c108 => ?_)
        · refine j_iload_n C d_RM_data_91 1 rfl ?_
          refine j_istore (lv9 := [(0, .ref (fad F r0)), (1, .int b1), (2, .int b2), (3, .int b3), (4, .int a4), (5, .int a5), (6, .int b1)]) C d_RM_data_92 rfl rfl (by decide) ?_
          refine j_loop (wL_RM_data_94 C (by exact h0) r0 hr0 b1 b2 b3 a4 a5 (fun q114 => j_some ?_) 9999 b1 σ)
          exact H87 q114.1 q114.2
        · refine j_iconst (v := (0 : Int32)) C d_RM_data_45 (by decide) ?_
          refine j_istore (lv9 := [(0, .ref (fad F r0)), (1, .int b1), (2, .int b2), (3, .int b3), (4, .int a4), (5, .int a5), (6, .int (0 : Int32))]) C d_RM_data_46 rfl rfl (by decide) ?_
          refine j_loop (wL_RM_data_48 C (by exact h0) r0 hr0 b1 b2 b3 a4 a5 (fun q120 => j_some ?_) 9999 (0 : Int32) σ)
          refine j_goto (tgt := 134) C d_RM_data_88 (by decide) ?_
          exact H87 q120.1 q120.2
set_option maxHeartbeats 4000000 in
set_option maxRecDepth 100000 in
theorem w_RM_data {F : Fx} (C : Ctx F prog_13_method_27_code 8 "LineFramesModel" none 4 96) {k0 : Nat} (h0k : Is k0 11) (x1 : Int32) (x2 : Int32) (x3 : Int32) (σ : Mem) : J F 8 (cvO cvM) (f_RM_data k0 x1 x2 x3 σ) σ 0 [(0, .ref (fad F k0)), (1, .int x1), (2, .int x2), (3, .int x3)] [] := by
  unfold f_RM_data
  refine j_aload_n C d_RM_data_0 0 rfl ?_
  refine j_iconst (v := (0 : Int32)) C d_RM_data_1 (by decide) ?_
  refine j_put C h0k fl_RM_156 fw_11_57 rfl rfl rfl d_RM_data_2 (fun σ1 => ?_)
  refine j_aload_n C d_RM_data_5 0 rfl ?_
  refine j_iconst (v := (0 : Int32)) C d_RM_data_6 (by decide) ?_
  refine j_put C h0k fl_RM_159 fw_11_58 rfl rfl rfl d_RM_data_7 (fun σ2 => ?_)
  refine j_aload_n C d_RM_data_10 0 rfl ?_
  refine j_bipush (v := (8 : Int32)) C d_RM_data_11 (by decide) ?_
  refine j_put C h0k fl_RM_162 fw_11_59 rfl rfl rfl d_RM_data_13 (fun σ3 => ?_)
  refine j_aload_n C d_RM_data_16 0 rfl ?_
  refine j_iconst (v := (0 : Int32)) C d_RM_data_17 (by decide) ?_
  refine j_aload_n C d_RM_data_18 0 rfl ?_
  refine j_getI C h0k fl_RM_116 rfl d_RM_data_19 ?_
  refine j_bind rfl (fun σ5 e4 => ?_)
  refine j_callVv C mv_RM_189 [.int (0 : Int32), .int (σ3 k0 10)] [] h0k (c_RM_begin h0k (0 : Int32) (σ3 k0 10) σ3 e4) rfl rfl (by decide) (Nat.le_of_ble_eq_true rfl) d_RM_data_22 ?_
  refine j_iconst (v := (0 : Int32)) C d_RM_data_25 (by decide) ?_
  refine j_istore (lv9 := [(0, .ref (fad F k0)), (1, .int x1), (2, .int x2), (3, .int x3), (4, .int (0 : Int32))]) C d_RM_data_26 rfl rfl (by decide) ?_
  refine j_iconst (v := (0 : Int32)) C d_RM_data_28 (by decide) ?_
  refine j_istore (lv9 := [(0, .ref (fad F k0)), (1, .int x1), (2, .int x2), (3, .int x3), (4, .int (0 : Int32)), (5, .int (0 : Int32))]) C d_RM_data_29 rfl rfl (by decide) ?_
  refine j_loop (wL_RM_data_31 C rfl k0 h0k x1 x2 x3 (fun q121 => j_some ?_) 9999 (0 : Int32) (0 : Int32) σ5)
  refine j_aload_n C d_RM_data_209 0 rfl ?_
  refine j_bind rfl (fun σ123 e122 => ?_)
  refine j_callVv C mv_RM_195 [] [] h0k (c_RM_fill h0k q121.2.2 e122) rfl rfl (by decide) (Nat.le_of_ble_eq_true rfl) d_RM_data_210 ?_
  exact j_vret C (fun ρ h => leaf_eq h) d_RM_data_213
theorem c_RM_data {l : Launch} {D : va_G} {G : GC} {ad : Nat → Nat} {k0 : Nat} (h0k : Is k0 11) (x1 : Int32) (x2 : Int32) (x3 : Int32) (σ : Mem) {q : Mem} (hq : f_RM_data k0 x1 x2 x3 σ = some q) : Ctr l D G ad ⟨"LineFramesModel", "data", "(III)V"⟩ prog_13_method_27_code 8 none 4 96 [.ref (ad k0), .int x1, .int x2, .int x3] σ (.inl none, q) := ctr_J (cv := (cvO cvM)) (E := f_RM_data k0 x1 x2 x3 σ) (by decide +kernel) (Nat.le_of_ble_eq_true rfl) (by rw [hq]; rfl) (fun F h C => by subst h; exact w_RM_data C h0k x1 x2 x3 σ)
/-! LineFramesModel scan (III)V -/
theorem d_RM_scan_0 : decode prog_13_method_28_code 0 = .ok (.aload_n 0, 1) := by decide +kernel
theorem d_RM_scan_1 : decode prog_13_method_28_code 1 = .ok (.sipush 218, 3) := by decide +kernel
theorem d_RM_scan_4 : decode prog_13_method_28_code 4 = .ok (.bipush 6, 2) := by decide +kernel
theorem d_RM_scan_6 : decode prog_13_method_28_code 6 = .ok (.iconst 2, 1) := by decide +kernel
theorem d_RM_scan_7 : decode prog_13_method_28_code 7 = .ok (.iload_n 2, 1) := by decide +kernel
theorem d_RM_scan_8 : decode prog_13_method_28_code 8 = .ok (.iload_n 1, 1) := by decide +kernel
theorem d_RM_scan_9 : decode prog_13_method_28_code 9 = .ok (.isub, 1) := by decide +kernel
theorem d_RM_scan_10 : decode prog_13_method_28_code 10 = .ok (.imul, 1) := by decide +kernel
theorem d_RM_scan_11 : decode prog_13_method_28_code 11 = .ok (.iadd, 1) := by decide +kernel
theorem d_RM_scan_12 : decode prog_13_method_28_code 12 = .ok (.invokevirtual 198, 3) := by decide +kernel
theorem d_RM_scan_15 : decode prog_13_method_28_code 15 = .ok (.aload_n 0, 1) := by decide +kernel
theorem d_RM_scan_16 : decode prog_13_method_28_code 16 = .ok (.iload_n 2, 1) := by decide +kernel
theorem d_RM_scan_17 : decode prog_13_method_28_code 17 = .ok (.iload_n 1, 1) := by decide +kernel
theorem d_RM_scan_18 : decode prog_13_method_28_code 18 = .ok (.isub, 1) := by decide +kernel
theorem d_RM_scan_19 : decode prog_13_method_28_code 19 = .ok (.invokevirtual 149, 3) := by decide +kernel
theorem d_RM_scan_22 : decode prog_13_method_28_code 22 = .ok (.iload_n 1, 1) := by decide +kernel
theorem d_RM_scan_23 : decode prog_13_method_28_code 23 = .ok (.istore 4, 2) := by decide +kernel
theorem d_RM_scan_25 : decode prog_13_method_28_code 25 = .ok (.iload 4, 2) := by decide +kernel
theorem d_RM_scan_27 : decode prog_13_method_28_code 27 = .ok (.iload_n 2, 1) := by decide +kernel
theorem d_RM_scan_28 : decode prog_13_method_28_code 28 = .ok (.if_icmp .ge 39, 3) := by decide +kernel
theorem d_RM_scan_31 : decode prog_13_method_28_code 31 = .ok (.aload_n 0, 1) := by decide +kernel
theorem d_RM_scan_32 : decode prog_13_method_28_code 32 = .ok (.iload 4, 2) := by decide +kernel
theorem d_RM_scan_34 : decode prog_13_method_28_code 34 = .ok (.iconst 1, 1) := by decide +kernel
theorem d_RM_scan_35 : decode prog_13_method_28_code 35 = .ok (.iadd, 1) := by decide +kernel
theorem d_RM_scan_36 : decode prog_13_method_28_code 36 = .ok (.invokevirtual 149, 3) := by decide +kernel
theorem d_RM_scan_39 : decode prog_13_method_28_code 39 = .ok (.aload_n 0, 1) := by decide +kernel
theorem d_RM_scan_40 : decode prog_13_method_28_code 40 = .ok (.aload_n 0, 1) := by decide +kernel
theorem d_RM_scan_41 : decode prog_13_method_28_code 41 = .ok (.getfield 13, 3) := by decide +kernel
theorem d_RM_scan_44 : decode prog_13_method_28_code 44 = .ok (.iload 4, 2) := by decide +kernel
theorem d_RM_scan_46 : decode prog_13_method_28_code 46 = .ok (.baload, 1) := by decide +kernel
theorem d_RM_scan_47 : decode prog_13_method_28_code 47 = .ok (.ifCond .eq 10, 3) := by decide +kernel
theorem d_RM_scan_50 : decode prog_13_method_28_code 50 = .ok (.iload 4, 2) := by decide +kernel
theorem d_RM_scan_52 : decode prog_13_method_28_code 52 = .ok (.iconst 1, 1) := by decide +kernel
theorem d_RM_scan_53 : decode prog_13_method_28_code 53 = .ok (.iadd, 1) := by decide +kernel
theorem d_RM_scan_54 : decode prog_13_method_28_code 54 = .ok (.goto 4, 3) := by decide +kernel
theorem d_RM_scan_57 : decode prog_13_method_28_code 57 = .ok (.iconst 0, 1) := by decide +kernel
theorem d_RM_scan_58 : decode prog_13_method_28_code 58 = .ok (.invokevirtual 149, 3) := by decide +kernel
theorem d_RM_scan_61 : decode prog_13_method_28_code 61 = .ok (.iinc 4 1, 3) := by decide +kernel
theorem d_RM_scan_64 : decode prog_13_method_28_code 64 = .ok (.goto (-39), 3) := by decide +kernel
theorem d_RM_scan_67 : decode prog_13_method_28_code 67 = .ok (.aload_n 0, 1) := by decide +kernel
theorem d_RM_scan_68 : decode prog_13_method_28_code 68 = .ok (.aload_n 0, 1) := by decide +kernel
theorem d_RM_scan_69 : decode prog_13_method_28_code 69 = .ok (.getfield 133, 3) := by decide +kernel
theorem d_RM_scan_72 : decode prog_13_method_28_code 72 = .ok (.invokevirtual 149, 3) := by decide +kernel
theorem d_RM_scan_75 : decode prog_13_method_28_code 75 = .ok (.aload_n 0, 1) := by decide +kernel
theorem d_RM_scan_76 : decode prog_13_method_28_code 76 = .ok (.iload_n 3, 1) := by decide +kernel
theorem d_RM_scan_77 : decode prog_13_method_28_code 77 = .ok (.invokevirtual 149, 3) := by decide +kernel
theorem d_RM_scan_80 : decode prog_13_method_28_code 80 = .ok (.aload_n 0, 1) := by decide +kernel
theorem d_RM_scan_81 : decode prog_13_method_28_code 81 = .ok (.iconst 0, 1) := by decide +kernel
theorem d_RM_scan_82 : decode prog_13_method_28_code 82 = .ok (.invokevirtual 149, 3) := by decide +kernel
theorem d_RM_scan_85 : decode prog_13_method_28_code 85 = .ok (.aload_n 0, 1) := by decide +kernel
theorem d_RM_scan_86 : decode prog_13_method_28_code 86 = .ok (.iload_n 1, 1) := by decide +kernel
theorem d_RM_scan_87 : decode prog_13_method_28_code 87 = .ok (.iload_n 2, 1) := by decide +kernel
theorem d_RM_scan_88 : decode prog_13_method_28_code 88 = .ok (.iload_n 3, 1) := by decide +kernel
theorem d_RM_scan_89 : decode prog_13_method_28_code 89 = .ok (.invokevirtual 201, 3) := by decide +kernel
theorem d_RM_scan_92 : decode prog_13_method_28_code 92 = .ok (.return_, 1) := by decide +kernel
def L_RM_scan_25 (r0 : Nat) (b1 : Int32) (b2 : Int32) (b3 : Int32) : Nat → Int32 → Mem →  Option (Int32 × Mem)
  | 0, _, _ => none
  | n + 1, a4, σ =>
  if b2 ≤ a4 then
  some (a4, σ)
  else
  (f_RM_lay r0 (a4 + (1 : Int32)) σ).bind fun σ7 =>
  if inb a4 (wln (wtg r0 7)) = true then
  (f_RM_lay r0 (if (σ7 (wtg r0 7) a4.toNatClampNeg) = 0 then (0 : Int32) else (a4 + (1 : Int32))) σ7).bind fun σ12 =>
  L_RM_scan_25 r0 b1 b2 b3 n (a4 + (1 : Int32)) σ12
  else none
def f_RM_scan (k0 : Nat) (x1 : Int32) (x2 : Int32) (x3 : Int32) (σ : Mem) : Option (Mem) :=
  (f_RM_mark k0 (218 : Int32) ((6 : Int32) + ((2 : Int32) * (x2 - x1))) σ).bind fun σ2 =>
  (f_RM_lay k0 (x2 - x1) σ2).bind fun σ4 =>
  (L_RM_scan_25 k0 x1 x2 x3 9999 x1 σ4).bind fun q13 =>
  (f_RM_lay k0 (q13.2 k0 54) q13.2).bind fun σ15 =>
  (f_RM_lay k0 x3 σ15).bind fun σ17 =>
  (f_RM_lay k0 (0 : Int32) σ17).bind fun σ19 =>
  (f_RM_data k0 x1 x2 x3 σ19).bind fun σ21 =>
  some (σ21)
set_option maxHeartbeats 4000000 in
set_option maxRecDepth 100000 in
theorem wL_RM_scan_25 {F : Fx} (C : Ctx F prog_13_method_28_code 5 "LineFramesModel" none 5 123) {cv : Option (Int32 × Mem) → Option Rs} (h0 : cv none = none) (r0 : Nat) (hr0 : Is r0 11) (b1 : Int32) (b2 : Int32) (b3 : Int32) (hex : ∀ q : Int32 × Mem, J F 5 cv (some q) q.2 67 [(0, .ref (fad F r0)), (1, .int b1), (2, .int b2), (3, .int b3), (4, .int q.1)] []) : ∀ (n : Nat) (a4 : Int32) (σ : Mem), J F 5 cv (L_RM_scan_25 r0 b1 b2 b3 n a4 σ) σ 25 [(0, .ref (fad F r0)), (1, .int b1), (2, .int b2), (3, .int b3), (4, .int a4)] [] := by
  intro n
  induction n with
  | zero => intro a4 σ hE; rw [L_RM_scan_25, h0] at hE; cases hE
  | succ n ih =>
    intro a4 σ
    rw [L_RM_scan_25]
    refine j_iload C d_RM_scan_25 4 rfl ?_
    refine j_iload_n C d_RM_scan_27 2 rfl ?_
    refine j_icmp_ge (tgt := 67) C d_RM_scan_28 (by decide) (fun c5 => ?_) (fun c5 => ?_)
    · exact hex (a4, σ)
    · refine j_aload_n C d_RM_scan_31 0 rfl ?_
      refine j_iload C d_RM_scan_32 4 rfl ?_
      refine j_iconst (v := (1 : Int32)) C d_RM_scan_34 (by decide) ?_
      refine j_iadd C d_RM_scan_35 ?_
      refine j_bind (by exact h0) (fun σ7 e6 => ?_)
      refine j_callVv C mv_RM_149 [.int (a4 + (1 : Int32))] [] hr0 (c_RM_lay hr0 (a4 + (1 : Int32)) σ e6) rfl rfl (by decide) (Nat.le_of_ble_eq_true rfl) d_RM_scan_36 ?_
      refine j_aload_n C d_RM_scan_39 0 rfl ?_
      refine j_aload_n C d_RM_scan_40 0 rfl ?_
      refine j_getR C hr0 fl_RM_13 rfl d_RM_scan_41 ?_
      refine j_iload C d_RM_scan_44 4 rfl ?_
      refine j_need (by exact h0) (fun g8 => ?_)
      refine j_zald C (tg_11_7 _ hr0) (inb_in g8) d_RM_scan_46 ?_
      refine d_if_eq (a := (0 : Int32)) (b := (a4 + (1 : Int32))) (jp := 58) (tgt := 57) C d_RM_scan_47 (by decide) (fun c9 k10 => ?_) (fun c9 k10 => ?_) ?_
      · refine j_iconst (v := (0 : Int32)) C d_RM_scan_57 (by decide) ?_
        exact k10
      · refine j_iload C d_RM_scan_50 4 rfl ?_
        refine j_iconst (v := (1 : Int32)) C d_RM_scan_52 (by decide) ?_
        refine j_iadd C d_RM_scan_53 ?_
        refine j_goto (tgt := 58) C d_RM_scan_54 (by decide) ?_
        exact k10
      refine j_bind (by exact h0) (fun σ12 e11 => ?_)
      refine j_callVv C mv_RM_149 [.int (if (σ7 (wtg r0 7) a4.toNatClampNeg) = 0 then (0 : Int32) else (a4 + (1 : Int32)))] [] hr0 (c_RM_lay hr0 (if (σ7 (wtg r0 7) a4.toNatClampNeg) = 0 then (0 : Int32) else (a4 + (1 : Int32))) σ7 e11) rfl rfl (by decide) (Nat.le_of_ble_eq_true rfl) d_RM_scan_58 ?_
      refine j_iinc (v := (a4 + (1 : Int32))) (lv9 := [(0, .ref (fad F r0)), (1, .int b1), (2, .int b2), (3, .int b3), (4, .int (a4 + (1 : Int32)))]) C d_RM_scan_61 4 rfl rfl rfl rfl (by decide) ?_
      refine j_goto (tgt := 25) C d_RM_scan_64 (by decide) ?_
      exact ih (a4 + (1 : Int32)) σ12
set_option maxHeartbeats 4000000 in
set_option maxRecDepth 100000 in
theorem w_RM_scan {F : Fx} (C : Ctx F prog_13_method_28_code 5 "LineFramesModel" none 5 123) {k0 : Nat} (h0k : Is k0 11) (x1 : Int32) (x2 : Int32) (x3 : Int32) (σ : Mem) : J F 5 (cvO cvM) (f_RM_scan k0 x1 x2 x3 σ) σ 0 [(0, .ref (fad F k0)), (1, .int x1), (2, .int x2), (3, .int x3)] [] := by
  unfold f_RM_scan
  refine j_aload_n C d_RM_scan_0 0 rfl ?_
  refine j_sipush (v := (218 : Int32)) C d_RM_scan_1 (by decide) ?_
  refine j_bipush (v := (6 : Int32)) C d_RM_scan_4 (by decide) ?_
  refine j_iconst (v := (2 : Int32)) C d_RM_scan_6 (by decide) ?_
  refine j_iload_n C d_RM_scan_7 2 rfl ?_
  refine j_iload_n C d_RM_scan_8 1 rfl ?_
  refine j_isub C d_RM_scan_9 ?_
  refine j_imul C d_RM_scan_10 ?_
  refine j_iadd C d_RM_scan_11 ?_
  refine j_bind rfl (fun σ2 e1 => ?_)
  refine j_callVv C mv_RM_198 [.int (218 : Int32), .int ((6 : Int32) + ((2 : Int32) * (x2 - x1)))] [] h0k (c_RM_mark h0k (218 : Int32) ((6 : Int32) + ((2 : Int32) * (x2 - x1))) σ e1) rfl rfl (by decide) (Nat.le_of_ble_eq_true rfl) d_RM_scan_12 ?_
  refine j_aload_n C d_RM_scan_15 0 rfl ?_
  refine j_iload_n C d_RM_scan_16 2 rfl ?_
  refine j_iload_n C d_RM_scan_17 1 rfl ?_
  refine j_isub C d_RM_scan_18 ?_
  refine j_bind rfl (fun σ4 e3 => ?_)
  refine j_callVv C mv_RM_149 [.int (x2 - x1)] [] h0k (c_RM_lay h0k (x2 - x1) σ2 e3) rfl rfl (by decide) (Nat.le_of_ble_eq_true rfl) d_RM_scan_19 ?_
  refine j_iload_n C d_RM_scan_22 1 rfl ?_
  refine j_istore (lv9 := [(0, .ref (fad F k0)), (1, .int x1), (2, .int x2), (3, .int x3), (4, .int x1)]) C d_RM_scan_23 rfl rfl (by decide) ?_
  refine j_loop (wL_RM_scan_25 C rfl k0 h0k x1 x2 x3 (fun q13 => j_some ?_) 9999 x1 σ4)
  refine j_aload_n C d_RM_scan_67 0 rfl ?_
  refine j_aload_n C d_RM_scan_68 0 rfl ?_
  refine j_getI C h0k fl_RM_133 rfl d_RM_scan_69 ?_
  refine j_bind rfl (fun σ15 e14 => ?_)
  refine j_callVv C mv_RM_149 [.int (q13.2 k0 54)] [] h0k (c_RM_lay h0k (q13.2 k0 54) q13.2 e14) rfl rfl (by decide) (Nat.le_of_ble_eq_true rfl) d_RM_scan_72 ?_
  refine j_aload_n C d_RM_scan_75 0 rfl ?_
  refine j_iload_n C d_RM_scan_76 3 rfl ?_
  refine j_bind rfl (fun σ17 e16 => ?_)
  refine j_callVv C mv_RM_149 [.int x3] [] h0k (c_RM_lay h0k x3 σ15 e16) rfl rfl (by decide) (Nat.le_of_ble_eq_true rfl) d_RM_scan_77 ?_
  refine j_aload_n C d_RM_scan_80 0 rfl ?_
  refine j_iconst (v := (0 : Int32)) C d_RM_scan_81 (by decide) ?_
  refine j_bind rfl (fun σ19 e18 => ?_)
  refine j_callVv C mv_RM_149 [.int (0 : Int32)] [] h0k (c_RM_lay h0k (0 : Int32) σ17 e18) rfl rfl (by decide) (Nat.le_of_ble_eq_true rfl) d_RM_scan_82 ?_
  refine j_aload_n C d_RM_scan_85 0 rfl ?_
  refine j_iload_n C d_RM_scan_86 1 rfl ?_
  refine j_iload_n C d_RM_scan_87 2 rfl ?_
  refine j_iload_n C d_RM_scan_88 3 rfl ?_
  refine j_bind rfl (fun σ21 e20 => ?_)
  refine j_callVv C mv_RM_201 [.int x1, .int x2, .int x3] [] h0k (c_RM_data h0k x1 x2 x3 σ19 e20) rfl rfl (by decide) (Nat.le_of_ble_eq_true rfl) d_RM_scan_89 ?_
  exact j_vret C (fun ρ h => leaf_eq h) d_RM_scan_92
theorem c_RM_scan {l : Launch} {D : va_G} {G : GC} {ad : Nat → Nat} {k0 : Nat} (h0k : Is k0 11) (x1 : Int32) (x2 : Int32) (x3 : Int32) (σ : Mem) {q : Mem} (hq : f_RM_scan k0 x1 x2 x3 σ = some q) : Ctr l D G ad ⟨"LineFramesModel", "scan", "(III)V"⟩ prog_13_method_28_code 5 none 5 123 [.ref (ad k0), .int x1, .int x2, .int x3] σ (.inl none, q) := ctr_J (cv := (cvO cvM)) (E := f_RM_scan k0 x1 x2 x3 σ) (by decide +kernel) (Nat.le_of_ble_eq_true rfl) (by rw [hq]; rfl) (fun F h C => by subst h; exact w_RM_scan C h0k x1 x2 x3 σ)
