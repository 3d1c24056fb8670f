/-! LineFramesModel hearSample (III)V -/
theorem d_RM_hearSample_0 : decode prog_13_method_46_code 0 = .ok (.aload_n 0, 1) := by decide +kernel
theorem d_RM_hearSample_1 : decode prog_13_method_46_code 1 = .ok (.iload_n 1, 1) := by decide +kernel
theorem d_RM_hearSample_2 : decode prog_13_method_46_code 2 = .ok (.invokevirtual 178, 3) := by decide +kernel
theorem d_RM_hearSample_5 : decode prog_13_method_46_code 5 = .ok (.istore 4, 2) := by decide +kernel
theorem d_RM_hearSample_7 : decode prog_13_method_46_code 7 = .ok (.iconst 0, 1) := by decide +kernel
theorem d_RM_hearSample_8 : decode prog_13_method_46_code 8 = .ok (.istore 5, 2) := by decide +kernel
theorem d_RM_hearSample_10 : decode prog_13_method_46_code 10 = .ok (.aload_n 0, 1) := by decide +kernel
theorem d_RM_hearSample_11 : decode prog_13_method_46_code 11 = .ok (.getfield 210, 3) := by decide +kernel
theorem d_RM_hearSample_14 : decode prog_13_method_46_code 14 = .ok (.ifCond .ne 23, 3) := by decide +kernel
theorem d_RM_hearSample_17 : decode prog_13_method_46_code 17 = .ok (.iload 5, 2) := by decide +kernel
theorem d_RM_hearSample_19 : decode prog_13_method_46_code 19 = .ok (.bipush 21, 2) := by decide +kernel
theorem d_RM_hearSample_21 : decode prog_13_method_46_code 21 = .ok (.if_icmp .ge 16, 3) := by decide +kernel
theorem d_RM_hearSample_24 : decode prog_13_method_46_code 24 = .ok (.aload_n 0, 1) := by decide +kernel
theorem d_RM_hearSample_25 : decode prog_13_method_46_code 25 = .ok (.invokevirtual 275, 3) := by decide +kernel
theorem d_RM_hearSample_28 : decode prog_13_method_46_code 28 = .ok (.ifCond .ne 9, 3) := by decide +kernel
theorem d_RM_hearSample_31 : decode prog_13_method_46_code 31 = .ok (.iinc 5 1, 3) := by decide +kernel
theorem d_RM_hearSample_34 : decode prog_13_method_46_code 34 = .ok (.goto (-24), 3) := by decide +kernel
theorem d_RM_hearSample_37 : decode prog_13_method_46_code 37 = .ok (.aload_n 0, 1) := by decide +kernel
theorem d_RM_hearSample_38 : decode prog_13_method_46_code 38 = .ok (.getfield 210, 3) := by decide +kernel
theorem d_RM_hearSample_41 : decode prog_13_method_46_code 41 = .ok (.ifCond .ne 22, 3) := by decide +kernel
theorem d_RM_hearSample_44 : decode prog_13_method_46_code 44 = .ok (.iload 5, 2) := by decide +kernel
theorem d_RM_hearSample_46 : decode prog_13_method_46_code 46 = .ok (.bipush 21, 2) := by decide +kernel
theorem d_RM_hearSample_48 : decode prog_13_method_46_code 48 = .ok (.if_icmp .ne 15, 3) := by decide +kernel
theorem d_RM_hearSample_51 : decode prog_13_method_46_code 51 = .ok (.aload_n 0, 1) := by decide +kernel
theorem d_RM_hearSample_52 : decode prog_13_method_46_code 52 = .ok (.bipush 7, 2) := by decide +kernel
theorem d_RM_hearSample_54 : decode prog_13_method_46_code 54 = .ok (.aload_n 0, 1) := by decide +kernel
theorem d_RM_hearSample_55 : decode prog_13_method_46_code 55 = .ok (.getfield 272, 3) := by decide +kernel
theorem d_RM_hearSample_58 : decode prog_13_method_46_code 58 = .ok (.invokevirtual 219, 3) := by decide +kernel
theorem d_RM_hearSample_61 : decode prog_13_method_46_code 61 = .ok (.istore 6, 2) := by decide +kernel
theorem d_RM_hearSample_63 : decode prog_13_method_46_code 63 = .ok (.aload_n 0, 1) := by decide +kernel
theorem d_RM_hearSample_64 : decode prog_13_method_46_code 64 = .ok (.getfield 210, 3) := by decide +kernel
theorem d_RM_hearSample_67 : decode prog_13_method_46_code 67 = .ok (.ifCond .le 4, 3) := by decide +kernel
theorem d_RM_hearSample_70 : decode prog_13_method_46_code 70 = .ok (.return_, 1) := by decide +kernel
theorem d_RM_hearSample_71 : decode prog_13_method_46_code 71 = .ok (.iload 5, 2) := by decide +kernel
theorem d_RM_hearSample_73 : decode prog_13_method_46_code 73 = .ok (.bipush 20, 2) := by decide +kernel
theorem d_RM_hearSample_75 : decode prog_13_method_46_code 75 = .ok (.if_icmp .ge 18, 3) := by decide +kernel
theorem d_RM_hearSample_78 : decode prog_13_method_46_code 78 = .ok (.iload 5, 2) := by decide +kernel
theorem d_RM_hearSample_80 : decode prog_13_method_46_code 80 = .ok (.iload 4, 2) := by decide +kernel
theorem d_RM_hearSample_82 : decode prog_13_method_46_code 82 = .ok (.ishl, 1) := by decide +kernel
theorem d_RM_hearSample_83 : decode prog_13_method_46_code 83 = .ok (.aload_n 0, 1) := by decide +kernel
theorem d_RM_hearSample_84 : decode prog_13_method_46_code 84 = .ok (.iload 4, 2) := by decide +kernel
theorem d_RM_hearSample_86 : decode prog_13_method_46_code 86 = .ok (.invokevirtual 278, 3) := by decide +kernel
theorem d_RM_hearSample_89 : decode prog_13_method_46_code 89 = .ok (.iadd, 1) := by decide +kernel
theorem d_RM_hearSample_90 : decode prog_13_method_46_code 90 = .ok (.goto 9, 3) := by decide +kernel
theorem d_RM_hearSample_93 : decode prog_13_method_46_code 93 = .ok (.aload_n 0, 1) := by decide +kernel
theorem d_RM_hearSample_94 : decode prog_13_method_46_code 94 = .ok (.bipush 9, 2) := by decide +kernel
theorem d_RM_hearSample_96 : decode prog_13_method_46_code 96 = .ok (.invokevirtual 278, 3) := by decide +kernel
theorem d_RM_hearSample_99 : decode prog_13_method_46_code 99 = .ok (.istore 6, 2) := by decide +kernel
theorem d_RM_hearSample_101 : decode prog_13_method_46_code 101 = .ok (.aload_n 0, 1) := by decide +kernel
theorem d_RM_hearSample_102 : decode prog_13_method_46_code 102 = .ok (.getfield 210, 3) := by decide +kernel
theorem d_RM_hearSample_105 : decode prog_13_method_46_code 105 = .ok (.ifCond .le 4, 3) := by decide +kernel
theorem d_RM_hearSample_108 : decode prog_13_method_46_code 108 = .ok (.return_, 1) := by decide +kernel
theorem d_RM_hearSample_109 : decode prog_13_method_46_code 109 = .ok (.iload 6, 2) := by decide +kernel
theorem d_RM_hearSample_111 : decode prog_13_method_46_code 111 = .ok (.iconst 2, 1) := by decide +kernel
theorem d_RM_hearSample_112 : decode prog_13_method_46_code 112 = .ok (.irem, 1) := by decide +kernel
theorem d_RM_hearSample_113 : decode prog_13_method_46_code 113 = .ok (.ifCond .ne 10, 3) := by decide +kernel
theorem d_RM_hearSample_116 : decode prog_13_method_46_code 116 = .ok (.iload 6, 2) := by decide +kernel
theorem d_RM_hearSample_118 : decode prog_13_method_46_code 118 = .ok (.iconst 2, 1) := by decide +kernel
theorem d_RM_hearSample_119 : decode prog_13_method_46_code 119 = .ok (.idiv, 1) := by decide +kernel
theorem d_RM_hearSample_120 : decode prog_13_method_46_code 120 = .ok (.goto 10, 3) := by decide +kernel
theorem d_RM_hearSample_123 : decode prog_13_method_46_code 123 = .ok (.iload 6, 2) := by decide +kernel
theorem d_RM_hearSample_125 : decode prog_13_method_46_code 125 = .ok (.iconst 1, 1) := by decide +kernel
theorem d_RM_hearSample_126 : decode prog_13_method_46_code 126 = .ok (.iadd, 1) := by decide +kernel
theorem d_RM_hearSample_127 : decode prog_13_method_46_code 127 = .ok (.iconst 2, 1) := by decide +kernel
theorem d_RM_hearSample_128 : decode prog_13_method_46_code 128 = .ok (.idiv, 1) := by decide +kernel
theorem d_RM_hearSample_129 : decode prog_13_method_46_code 129 = .ok (.ineg, 1) := by decide +kernel
theorem d_RM_hearSample_130 : decode prog_13_method_46_code 130 = .ok (.istore 7, 2) := by decide +kernel
theorem d_RM_hearSample_132 : decode prog_13_method_46_code 132 = .ok (.aload_n 0, 1) := by decide +kernel
theorem d_RM_hearSample_133 : decode prog_13_method_46_code 133 = .ok (.iload_n 1, 1) := by decide +kernel
theorem d_RM_hearSample_134 : decode prog_13_method_46_code 134 = .ok (.iload_n 2, 1) := by decide +kernel
theorem d_RM_hearSample_135 : decode prog_13_method_46_code 135 = .ok (.iload_n 3, 1) := by decide +kernel
theorem d_RM_hearSample_136 : decode prog_13_method_46_code 136 = .ok (.invokevirtual 168, 3) := by decide +kernel
theorem d_RM_hearSample_139 : decode prog_13_method_46_code 139 = .ok (.aload_n 0, 1) := by decide +kernel
theorem d_RM_hearSample_140 : decode prog_13_method_46_code 140 = .ok (.invokevirtual 139, 3) := by decide +kernel
theorem d_RM_hearSample_143 : decode prog_13_method_46_code 143 = .ok (.iload 7, 2) := by decide +kernel
theorem d_RM_hearSample_145 : decode prog_13_method_46_code 145 = .ok (.imul, 1) := by decide +kernel
theorem d_RM_hearSample_146 : decode prog_13_method_46_code 146 = .ok (.iadd, 1) := by decide +kernel
theorem d_RM_hearSample_147 : decode prog_13_method_46_code 147 = .ok (.istore 8, 2) := by decide +kernel
theorem d_RM_hearSample_149 : decode prog_13_method_46_code 149 = .ok (.iload 8, 2) := by decide +kernel
theorem d_RM_hearSample_151 : decode prog_13_method_46_code 151 = .ok (.aload_n 0, 1) := by decide +kernel
theorem d_RM_hearSample_152 : decode prog_13_method_46_code 152 = .ok (.getfield 133, 3) := by decide +kernel
theorem d_RM_hearSample_155 : decode prog_13_method_46_code 155 = .ok (.ineg, 1) := by decide +kernel
theorem d_RM_hearSample_156 : decode prog_13_method_46_code 156 = .ok (.if_icmp .ge 20, 3) := by decide +kernel
theorem d_RM_hearSample_159 : decode prog_13_method_46_code 159 = .ok (.iload 8, 2) := by decide +kernel
theorem d_RM_hearSample_161 : decode prog_13_method_46_code 161 = .ok (.aload_n 0, 1) := by decide +kernel
theorem d_RM_hearSample_162 : decode prog_13_method_46_code 162 = .ok (.invokevirtual 139, 3) := by decide +kernel
theorem d_RM_hearSample_165 : decode prog_13_method_46_code 165 = .ok (.aload_n 0, 1) := by decide +kernel
theorem d_RM_hearSample_166 : decode prog_13_method_46_code 166 = .ok (.invokevirtual 175, 3) := by decide +kernel
theorem d_RM_hearSample_169 : decode prog_13_method_46_code 169 = .ok (.imul, 1) := by decide +kernel
theorem d_RM_hearSample_170 : decode prog_13_method_46_code 170 = .ok (.iadd, 1) := by decide +kernel
theorem d_RM_hearSample_171 : decode prog_13_method_46_code 171 = .ok (.istore 8, 2) := by decide +kernel
theorem d_RM_hearSample_173 : decode prog_13_method_46_code 173 = .ok (.goto 31, 3) := by decide +kernel
theorem d_RM_hearSample_176 : decode prog_13_method_46_code 176 = .ok (.iload 8, 2) := by decide +kernel
theorem d_RM_hearSample_178 : decode prog_13_method_46_code 178 = .ok (.aload_n 0, 1) := by decide +kernel
theorem d_RM_hearSample_179 : decode prog_13_method_46_code 179 = .ok (.getfield 136, 3) := by decide +kernel
theorem d_RM_hearSample_182 : decode prog_13_method_46_code 182 = .ok (.aload_n 0, 1) := by decide +kernel
theorem d_RM_hearSample_183 : decode prog_13_method_46_code 183 = .ok (.getfield 133, 3) := by decide +kernel
theorem d_RM_hearSample_186 : decode prog_13_method_46_code 186 = .ok (.iadd, 1) := by decide +kernel
theorem d_RM_hearSample_187 : decode prog_13_method_46_code 187 = .ok (.if_icmp .le 17, 3) := by decide +kernel
theorem d_RM_hearSample_190 : decode prog_13_method_46_code 190 = .ok (.iload 8, 2) := by decide +kernel
theorem d_RM_hearSample_192 : decode prog_13_method_46_code 192 = .ok (.aload_n 0, 1) := by decide +kernel
theorem d_RM_hearSample_193 : decode prog_13_method_46_code 193 = .ok (.invokevirtual 139, 3) := by decide +kernel
theorem d_RM_hearSample_196 : decode prog_13_method_46_code 196 = .ok (.aload_n 0, 1) := by decide +kernel
theorem d_RM_hearSample_197 : decode prog_13_method_46_code 197 = .ok (.invokevirtual 175, 3) := by decide +kernel
theorem d_RM_hearSample_200 : decode prog_13_method_46_code 200 = .ok (.imul, 1) := by decide +kernel
theorem d_RM_hearSample_201 : decode prog_13_method_46_code 201 = .ok (.isub, 1) := by decide +kernel
theorem d_RM_hearSample_202 : decode prog_13_method_46_code 202 = .ok (.istore 8, 2) := by decide +kernel
theorem d_RM_hearSample_204 : decode prog_13_method_46_code 204 = .ok (.aload_n 0, 1) := by decide +kernel
theorem d_RM_hearSample_205 : decode prog_13_method_46_code 205 = .ok (.getfield 77, 3) := by decide +kernel
theorem d_RM_hearSample_208 : decode prog_13_method_46_code 208 = .ok (.sipush 144, 3) := by decide +kernel
theorem d_RM_hearSample_211 : decode prog_13_method_46_code 211 = .ok (.iload_n 1, 1) := by decide +kernel
theorem d_RM_hearSample_212 : decode prog_13_method_46_code 212 = .ok (.imul, 1) := by decide +kernel
theorem d_RM_hearSample_213 : decode prog_13_method_46_code 213 = .ok (.bipush 12, 2) := by decide +kernel
theorem d_RM_hearSample_215 : decode prog_13_method_46_code 215 = .ok (.iload_n 3, 1) := by decide +kernel
theorem d_RM_hearSample_216 : decode prog_13_method_46_code 216 = .ok (.imul, 1) := by decide +kernel
theorem d_RM_hearSample_217 : decode prog_13_method_46_code 217 = .ok (.iadd, 1) := by decide +kernel
theorem d_RM_hearSample_218 : decode prog_13_method_46_code 218 = .ok (.iload_n 2, 1) := by decide +kernel
theorem d_RM_hearSample_219 : decode prog_13_method_46_code 219 = .ok (.iadd, 1) := by decide +kernel
theorem d_RM_hearSample_220 : decode prog_13_method_46_code 220 = .ok (.aload_n 0, 1) := by decide +kernel
theorem d_RM_hearSample_221 : decode prog_13_method_46_code 221 = .ok (.iload 8, 2) := by decide +kernel
theorem d_RM_hearSample_223 : decode prog_13_method_46_code 223 = .ok (.invokevirtual 172, 3) := by decide +kernel
theorem d_RM_hearSample_226 : decode prog_13_method_46_code 226 = .ok (.iastore, 1) := by decide +kernel
theorem d_RM_hearSample_227 : decode prog_13_method_46_code 227 = .ok (.aload_n 0, 1) := by decide +kernel
theorem d_RM_hearSample_228 : decode prog_13_method_46_code 228 = .ok (.iload_n 1, 1) := by decide +kernel
theorem d_RM_hearSample_229 : decode prog_13_method_46_code 229 = .ok (.iload 7, 2) := by decide +kernel
theorem d_RM_hearSample_231 : decode prog_13_method_46_code 231 = .ok (.aload_n 0, 1) := by decide +kernel
theorem d_RM_hearSample_232 : decode prog_13_method_46_code 232 = .ok (.getfield 245, 3) := by decide +kernel
theorem d_RM_hearSample_235 : decode prog_13_method_46_code 235 = .ok (.invokevirtual 185, 3) := by decide +kernel
theorem d_RM_hearSample_238 : decode prog_13_method_46_code 238 = .ok (.return_, 1) := by decide +kernel
def L_RM_hearSample_10 (r0 : Nat) (b1 : Int32) (b2 : Int32) (b3 : Int32) (b4 : Int32) : Nat → Int32 → Mem →  Option (Int32 × Mem)
  | 0, _, _ => none
  | n + 1, a5, σ =>
  if (σ r0 28) = 0 then
  if (21 : Int32) ≤ a5 then
  some (a5, σ)
  else
  (f_RM_hear r0 σ).bind fun q6 =>
  if q6.1 = 0 then
  L_RM_hearSample_10 r0 b1 b2 b3 b4 n (a5 + (1 : Int32)) q6.2
  else
  some (a5, q6.2)
  else
  some (a5, σ)
def f_RM_hearSample (k0 : Nat) (x1 : Int32) (x2 : Int32) (x3 : Int32) (σ : Mem) : Option (Mem) :=
  (f_RM_lengthOf k0 x1 σ).bind fun r2 =>
  (L_RM_hearSample_10 k0 x1 x2 x3 r2 9999 (0 : Int32) σ).bind fun q8 =>
  lt (fun  (σ594 : Mem) => 
  if (σ594 k0 28) ≤ 0 then
  lt (fun (y763 : Int32) (σ764 : Mem) => 
  if (σ764 k0 28) ≤ 0 then
  lt (if (y763 - y763 / (2 : Int32) * (2 : Int32)) = 0 then (y763 / (2 : Int32)) else (-((y763 + (1 : Int32)) / (2 : Int32)))) fun v770 =>
  (f_RM_foretold k0 x1 x2 x3 σ764).bind fun r772 =>
  lt (fun (y862 : Int32) => 
  if inb ((((144 : Int32) * x1) + ((12 : Int32) * x3)) + x2) (wln (wtg k0 51)) = true then
  lt (mput σ764 (wtg k0 51) ((((144 : Int32) * x1) + ((12 : Int32) * x3)) + x2).toNatClampNeg (f_RM_clipped k0 y862 σ764)) fun σ866 =>
  (f_RM_count k0 x1 v770 (σ866 k0 38) σ866).bind fun σ868 =>
  some (σ868)
  else none) fun K863 =>
  if (-(σ764 k0 54)) ≤ (r772 + ((f_RM_step k0 σ764) * v770)) then
  if (r772 + ((f_RM_step k0 σ764) * v770)) ≤ ((σ764 k0 55) + (σ764 k0 54)) then
  K863 (r772 + ((f_RM_step k0 σ764) * v770))
  else
  (f_RM_range k0 σ764).bind fun r872 =>
  lt ((r772 + ((f_RM_step k0 σ764) * v770)) - ((f_RM_step k0 σ764) * r872)) fun v873 =>
  K863 v873
  else
  (f_RM_range k0 σ764).bind fun r875 =>
  lt ((r772 + ((f_RM_step k0 σ764) * v770)) + ((f_RM_step k0 σ764) * r875)) fun v876 =>
  K863 v876
  else
  some (σ764)) fun K765 =>
  if (20 : Int32) ≤ q8.1 then
  (f_RM_hearBits k0 (9 : Int32) σ594).bind fun q879 =>
  K765 q879.1 q879.2
  else
  (f_RM_hearBits k0 r2 σ594).bind fun q881 =>
  K765 ((q8.1 <<< (r2 &&& 31)) + q881.1) q881.2
  else
  some (σ594)) fun K595 =>
  if (q8.2 k0 28) = 0 then
  if q8.1 = (21 : Int32) then
  lt (f_RM_broken k0 (7 : Int32) (q8.2 k0 63) q8.2) fun q884 =>
  K595 q884.2
  else
  K595 q8.2
  else
  K595 q8.2
set_option maxHeartbeats 4000000 in
set_option maxRecDepth 100000 in
theorem wL_RM_hearSample_10 {F : Fx} (C : Ctx F prog_13_method_46_code 9 "LineFramesModel" none 3 66) {cv : Option (Int32 × Mem) → Option Rs} (h0 : cv none = none) (r0 : Nat) (hr0 : Is r0 11) (b1 : Int32) (b2 : Int32) (b3 : Int32) (b4 : Int32) (hex : ∀ q : Int32 × Mem, J F 9 cv (some q) q.2 37 [(0, .ref (fad F r0)), (1, .int b1), (2, .int b2), (3, .int b3), (4, .int b4), (5, .int q.1)] []) : ∀ (n : Nat) (a5 : Int32) (σ : Mem), J F 9 cv (L_RM_hearSample_10 r0 b1 b2 b3 b4 n a5 σ) σ 10 [(0, .ref (fad F r0)), (1, .int b1), (2, .int b2), (3, .int b3), (4, .int b4), (5, .int a5)] [] := by
  intro n
  induction n with
  | zero => intro a5 σ hE; rw [L_RM_hearSample_10, h0] at hE; cases hE
  | succ n ih =>
    intro a5 σ
    rw [L_RM_hearSample_10]
    refine j_aload_n C d_RM_hearSample_10 0 rfl ?_
    refine j_getI C hr0 fl_RM_210 rfl d_RM_hearSample_11 ?_
    refine j_if_ne (tgt := 37) C d_RM_hearSample_14 (by decide) (fun c3 => ?_) (fun c3 => ?_)
    · exact hex (a5, σ)
    · refine j_iload C d_RM_hearSample_17 5 rfl ?_
      refine j_bipush (v := (21 : Int32)) C d_RM_hearSample_19 (by decide) ?_
      refine j_icmp_ge (tgt := 37) C d_RM_hearSample_21 (by decide) (fun c4 => ?_) (fun c4 => ?_)
      · exact hex (a5, σ)
      · refine j_aload_n C d_RM_hearSample_24 0 rfl ?_
        refine j_bind (by exact h0) (fun q6 e5 => ?_)
        refine j_callVi C mv_RM_275 [] [] hr0 (c_RM_hear hr0 σ e5) rfl rfl (by decide) (Nat.le_of_ble_eq_true rfl) d_RM_hearSample_25 ?_
        refine j_if_ne (tgt := 37) C d_RM_hearSample_28 (by decide) (fun c7 => ?_) (fun c7 => ?_)
        · exact hex (a5, q6.2)
        · refine j_iinc (v := (a5 + (1 : Int32))) (lv9 := [(0, .ref (fad F r0)), (1, .int b1), (2, .int b2), (3, .int b3), (4, .int b4), (5, .int (a5 + (1 : Int32)))]) C d_RM_hearSample_31 5 rfl rfl rfl rfl (by decide) ?_
          refine j_goto (tgt := 10) C d_RM_hearSample_34 (by decide) ?_
          exact ih (a5 + (1 : Int32)) q6.2
set_option maxHeartbeats 4000000 in
set_option maxRecDepth 100000 in
theorem w_RM_hearSample {F : Fx} (C : Ctx F prog_13_method_46_code 9 "LineFramesModel" none 3 66) {k0 : Nat} (h0k : Is k0 11) (x1 : Int32) (x2 : Int32) (x3 : Int32) (σ : Mem) : J F 9 (cvO cvM) (f_RM_hearSample k0 x1 x2 x3 σ) σ 0 [(0, .ref (fad F k0)), (1, .int x1), (2, .int x2), (3, .int x3)] [] := by
  unfold f_RM_hearSample
  refine j_aload_n C d_RM_hearSample_0 0 rfl ?_
  refine j_iload_n C d_RM_hearSample_1 1 rfl ?_
  refine j_bind rfl (fun r2 e1 => ?_)
  refine j_callVi C mv_RM_178 [.int x1] [] h0k (c_RM_lengthOf h0k x1 σ e1) rfl rfl (by decide) (Nat.le_of_ble_eq_true rfl) d_RM_hearSample_2 ?_
  refine j_istore (lv9 := [(0, .ref (fad F k0)), (1, .int x1), (2, .int x2), (3, .int x3), (4, .int r2)]) C d_RM_hearSample_5 rfl rfl (by decide) ?_
  refine j_iconst (v := (0 : Int32)) C d_RM_hearSample_7 (by decide) ?_
  refine j_istore (lv9 := [(0, .ref (fad F k0)), (1, .int x1), (2, .int x2), (3, .int x3), (4, .int r2), (5, .int (0 : Int32))]) C d_RM_hearSample_8 rfl rfl (by decide) ?_
  refine j_loop (wL_RM_hearSample_10 C rfl k0 h0k x1 x2 x3 r2 (fun q8 => j_some ?_) 9999 (0 : Int32) σ)
  refine j_aload_n C d_RM_hearSample_37 0 rfl ?_
  refine j_getI C h0k fl_RM_210 rfl d_RM_hearSample_38 ?_
  refine j_join0m 63 (fun _ => [(0, .ref (fad F k0)), (1, .int x1), (2, .int x2), (3, .int x3), (4, .int r2), (5, .int q8.1)]) (fun _ => []) (fun σ594 => ?_) (fun K595 H596 => ?_)
  · refine j_aload_n C d_RM_hearSample_63 0 rfl ?_
    refine j_getI C h0k fl_RM_210 rfl d_RM_hearSample_64 ?_
    refine j_if_le (tgt := 71) C d_RM_hearSample_67 (by decide) (fun c597 => ?_) (fun c597 => ?_)
    · refine j_iload C d_RM_hearSample_71 5 rfl ?_
      refine j_bipush (v := (20 : Int32)) C d_RM_hearSample_73 (by decide) ?_
      refine j_join1m 99 (fun _ _ => [(0, .ref (fad F k0)), (1, .int x1), (2, .int x2), (3, .int x3), (4, .int r2), (5, .int q8.1)]) (fun y763 _ => [.int y763]) (fun y763 σ764 => ?_) (fun K765 H766 => ?_)
      · refine j_istore (lv9 := [(0, .ref (fad F k0)), (1, .int x1), (2, .int x2), (3, .int x3), (4, .int r2), (5, .int q8.1), (6, .int y763)]) C d_RM_hearSample_99 rfl rfl (by decide) ?_
        refine j_aload_n C d_RM_hearSample_101 0 rfl ?_
        refine j_getI C h0k fl_RM_210 rfl d_RM_hearSample_102 ?_
        refine j_if_le (tgt := 109) C d_RM_hearSample_105 (by decide) (fun c767 => ?_) (fun c767 => ?_)
        · refine j_iload C d_RM_hearSample_109 6 rfl ?_
          refine j_iconst (v := (2 : Int32)) C d_RM_hearSample_111 (by decide) ?_
          refine j_irem C d_RM_hearSample_112 (by decide) ?_
          refine d_if_ne (a := (y763 / (2 : Int32))) (b := (-((y763 + (1 : Int32)) / (2 : Int32)))) (jp := 130) (tgt := 123) C d_RM_hearSample_113 (by decide) (fun c768 k769 => ?_) (fun c768 k769 => ?_) ?_
          · refine j_iload C d_RM_hearSample_123 6 rfl ?_
            refine j_iconst (v := (1 : Int32)) C d_RM_hearSample_125 (by decide) ?_
            refine j_iadd C d_RM_hearSample_126 ?_
            refine j_iconst (v := (2 : Int32)) C d_RM_hearSample_127 (by decide) ?_
            refine j_idiv C d_RM_hearSample_128 (by decide) ?_
            refine j_ineg C d_RM_hearSample_129 ?_
            exact k769
          · refine j_iload C d_RM_hearSample_116 6 rfl ?_
            refine j_iconst (v := (2 : Int32)) C d_RM_hearSample_118 (by decide) ?_
            refine j_idiv C d_RM_hearSample_119 (by decide) ?_
            refine j_goto (tgt := 130) C d_RM_hearSample_120 (by decide) ?_
            exact k769
          refine j_nm (fun v770 v770_e => ?_)
          refine j_istore (lv9 := [(0, .ref (fad F k0)), (1, .int x1), (2, .int x2), (3, .int x3), (4, .int r2), (5, .int q8.1), (6, .int y763), (7, .int v770)]) C d_RM_hearSample_130 rfl rfl (by decide) ?_
          refine j_aload_n C d_RM_hearSample_132 0 rfl ?_
          refine j_iload_n C d_RM_hearSample_133 1 rfl ?_
          refine j_iload_n C d_RM_hearSample_134 2 rfl ?_
          refine j_iload_n C d_RM_hearSample_135 3 rfl ?_
          refine j_bind rfl (fun r772 e771 => ?_)
          refine j_callVi C mv_RM_168 [.int x1, .int x2, .int x3] [] h0k (c_RM_foretold h0k x1 x2 x3 σ764 e771) rfl rfl (by decide) (Nat.le_of_ble_eq_true rfl) d_RM_hearSample_136 ?_
          refine j_aload_n C d_RM_hearSample_139 0 rfl ?_
          refine j_callVi C mv_RM_139 [] [.int r772] h0k (c_RM_step h0k σ764) rfl rfl (by decide) (Nat.le_of_ble_eq_true rfl) d_RM_hearSample_140 ?_
          refine j_iload C d_RM_hearSample_143 7 rfl ?_
          refine j_imul C d_RM_hearSample_145 ?_
          refine j_iadd C d_RM_hearSample_146 ?_
          refine j_istore (lv9 := [(0, .ref (fad F k0)), (1, .int x1), (2, .int x2), (3, .int x3), (4, .int r2), (5, .int q8.1), (6, .int y763), (7, .int v770), (8, .int (r772 + ((f_RM_step k0 σ764) * v770)))]) C d_RM_hearSample_147 rfl rfl (by decide) ?_
          refine j_iload C d_RM_hearSample_149 8 rfl ?_
          refine j_aload_n C d_RM_hearSample_151 0 rfl ?_
          refine j_getI C h0k fl_RM_133 rfl d_RM_hearSample_152 ?_
          refine j_ineg C d_RM_hearSample_155 ?_
          refine j_join1 204 (fun y862 => [(0, .ref (fad F k0)), (1, .int x1), (2, .int x2), (3, .int x3), (4, .int r2), (5, .int q8.1), (6, .int y763), (7, .int v770), (8, .int y862)]) (fun _ => []) (fun y862 => ?_) (fun K863 H864 => ?_)
          · refine j_aload_n C d_RM_hearSample_204 0 rfl ?_
            refine j_getR C h0k fl_RM_77 rfl d_RM_hearSample_205 ?_
            refine j_sipush (v := (144 : Int32)) C d_RM_hearSample_208 (by decide) ?_
            refine j_iload_n C d_RM_hearSample_211 1 rfl ?_
            refine j_imul C d_RM_hearSample_212 ?_
            refine j_bipush (v := (12 : Int32)) C d_RM_hearSample_213 (by decide) ?_
            refine j_iload_n C d_RM_hearSample_215 3 rfl ?_
            refine j_imul C d_RM_hearSample_216 ?_
            refine j_iadd C d_RM_hearSample_217 ?_
            refine j_iload_n C d_RM_hearSample_218 2 rfl ?_
            refine j_iadd C d_RM_hearSample_219 ?_
            refine j_aload_n C d_RM_hearSample_220 0 rfl ?_
            refine j_iload C d_RM_hearSample_221 8 rfl ?_
            refine j_callVi C mv_RM_172 [.int y862] [.int ((((144 : Int32) * x1) + ((12 : Int32) * x3)) + x2), .ref (fad F (wtg k0 51))] h0k (c_RM_clipped h0k y862 σ764) rfl rfl (by decide) (Nat.le_of_ble_eq_true rfl) d_RM_hearSample_223 ?_
            refine j_need rfl (fun g865 => ?_)
            refine j_iast C (tg_11_51 _ h0k) (inb_in g865) d_RM_hearSample_226 (fun σ866 => ?_)
            refine j_aload_n C d_RM_hearSample_227 0 rfl ?_
            refine j_iload_n C d_RM_hearSample_228 1 rfl ?_
            refine j_iload C d_RM_hearSample_229 7 rfl ?_
            refine j_aload_n C d_RM_hearSample_231 0 rfl ?_
            refine j_getI C h0k fl_RM_245 rfl d_RM_hearSample_232 ?_
            refine j_bind rfl (fun σ868 e867 => ?_)
            refine j_callVv C mv_RM_185 [.int x1, .int v770, .int (σ866 k0 38)] [] h0k (c_RM_count h0k x1 v770 (σ866 k0 38) σ866 e867) rfl rfl (by decide) (Nat.le_of_ble_eq_true rfl) d_RM_hearSample_235 ?_
            exact j_vret C (fun ρ h => leaf_eq h) d_RM_hearSample_238
          · refine j_icmp_ge (tgt := 176) C d_RM_hearSample_156 (by decide) (fun c869 => ?_) (fun c869 => ?_)
            · refine j_iload C d_RM_hearSample_176 8 rfl ?_
              refine j_aload_n C d_RM_hearSample_178 0 rfl ?_
              refine j_getI C h0k fl_RM_136 rfl d_RM_hearSample_179 ?_
              refine j_aload_n C d_RM_hearSample_182 0 rfl ?_
              refine j_getI C h0k fl_RM_133 rfl d_RM_hearSample_183 ?_
              refine j_iadd C d_RM_hearSample_186 ?_
              refine j_icmp_le (tgt := 204) C d_RM_hearSample_187 (by decide) (fun c870 => ?_) (fun c870 => ?_)
              · exact H864 (r772 + ((f_RM_step k0 σ764) * v770))
              · refine j_iload C d_RM_hearSample_190 8 rfl ?_
                refine j_aload_n C d_RM_hearSample_192 0 rfl ?_
                refine j_callVi C mv_RM_139 [] [.int (r772 + ((f_RM_step k0 σ764) * v770))] h0k (c_RM_step h0k σ764) rfl rfl (by decide) (Nat.le_of_ble_eq_true rfl) d_RM_hearSample_193 ?_
                refine j_aload_n C d_RM_hearSample_196 0 rfl ?_
                refine j_bind rfl (fun r872 e871 => ?_)
                refine j_callVi C mv_RM_175 [] [.int (f_RM_step k0 σ764), .int (r772 + ((f_RM_step k0 σ764) * v770))] h0k (c_RM_range h0k σ764 e871) rfl rfl (by decide) (Nat.le_of_ble_eq_true rfl) d_RM_hearSample_197 ?_
                refine j_imul C d_RM_hearSample_200 ?_
                refine j_isub C d_RM_hearSample_201 ?_
                refine j_nm (fun v873 v873_e => ?_)
                refine j_istore (lv9 := [(0, .ref (fad F k0)), (1, .int x1), (2, .int x2), (3, .int x3), (4, .int r2), (5, .int q8.1), (6, .int y763), (7, .int v770), (8, .int v873)]) C d_RM_hearSample_202 rfl rfl (by decide) ?_
                exact H864 v873
            · refine j_iload C d_RM_hearSample_159 8 rfl ?_
              refine j_aload_n C d_RM_hearSample_161 0 rfl ?_
              refine j_callVi C mv_RM_139 [] [.int (r772 + ((f_RM_step k0 σ764) * v770))] h0k (c_RM_step h0k σ764) rfl rfl (by decide) (Nat.le_of_ble_eq_true rfl) d_RM_hearSample_162 ?_
              refine j_aload_n C d_RM_hearSample_165 0 rfl ?_
              refine j_bind rfl (fun r875 e874 => ?_)
              refine j_callVi C mv_RM_175 [] [.int (f_RM_step k0 σ764), .int (r772 + ((f_RM_step k0 σ764) * v770))] h0k (c_RM_range h0k σ764 e874) rfl rfl (by decide) (Nat.le_of_ble_eq_true rfl) d_RM_hearSample_166 ?_
              refine j_imul C d_RM_hearSample_169 ?_
              refine j_iadd C d_RM_hearSample_170 ?_
              refine j_nm (fun v876 v876_e => ?_)
              refine j_istore (lv9 := [(0, .ref (fad F k0)), (1, .int x1), (2, .int x2), (3, .int x3), (4, .int r2), (5, .int q8.1), (6, .int y763), (7, .int v770), (8, .int v876)]) C d_RM_hearSample_171 rfl rfl (by decide) ?_
              refine j_goto (tgt := 204) C d_RM_hearSample_173 (by decide) ?_
              exact H864 v876
        · exact j_vret C (fun ρ h => leaf_eq h) d_RM_hearSample_108
      · refine j_icmp_ge (tgt := 93) C d_RM_hearSample_75 (by decide) (fun c877 => ?_) (fun c877 => ?_)
        · refine j_aload_n C d_RM_hearSample_93 0 rfl ?_
          refine j_bipush (v := (9 : Int32)) C d_RM_hearSample_94 (by decide) ?_
          refine j_bind rfl (fun q879 e878 => ?_)
          refine j_callVi C mv_RM_278 [.int (9 : Int32)] [] h0k (c_RM_hearBits h0k (9 : Int32) σ594 e878) rfl rfl (by decide) (Nat.le_of_ble_eq_true rfl) d_RM_hearSample_96 ?_
          exact H766 q879.1 q879.2
        · refine j_iload C d_RM_hearSample_78 5 rfl ?_
          refine j_iload C d_RM_hearSample_80 4 rfl ?_
          refine j_ishl C d_RM_hearSample_82 ?_
          refine j_aload_n C d_RM_hearSample_83 0 rfl ?_
          refine j_iload C d_RM_hearSample_84 4 rfl ?_
          refine j_bind rfl (fun q881 e880 => ?_)
          refine j_callVi C mv_RM_278 [.int r2] [.int (q8.1 <<< (r2 &&& 31))] h0k (c_RM_hearBits h0k r2 σ594 e880) rfl rfl (by decide) (Nat.le_of_ble_eq_true rfl) d_RM_hearSample_86 ?_
          refine j_iadd C d_RM_hearSample_89 ?_
          refine j_goto (tgt := 99) C d_RM_hearSample_90 (by decide) ?_
          exact H766 ((q8.1 <<< (r2 &&& 31)) + q881.1) q881.2
    · exact j_vret C (fun ρ h => leaf_eq h) d_RM_hearSample_70
  · refine j_if_ne (tgt := 63) C d_RM_hearSample_41 (by decide) (fun c882 => ?_) (fun c882 => ?_)
    · exact H596 q8.2
    · refine j_iload C d_RM_hearSample_44 5 rfl ?_
      refine j_bipush (v := (21 : Int32)) C d_RM_hearSample_46 (by decide) ?_
      refine j_icmp_ne (tgt := 63) C d_RM_hearSample_48 (by decide) (fun c883 => ?_) (fun c883 => ?_)
      · exact H596 q8.2
      · refine j_aload_n C d_RM_hearSample_51 0 rfl ?_
        refine j_bipush (v := (7 : Int32)) C d_RM_hearSample_52 (by decide) ?_
        refine j_aload_n C d_RM_hearSample_54 0 rfl ?_
        refine j_getI C h0k fl_RM_272 rfl d_RM_hearSample_55 ?_
        refine j_callVi C mv_RM_219 [.int (7 : Int32), .int (q8.2 k0 63)] [] h0k (c_RM_broken h0k (7 : Int32) (q8.2 k0 63) q8.2) rfl rfl (by decide) (Nat.le_of_ble_eq_true rfl) d_RM_hearSample_58 ?_
        refine j_genIMz (z_RM_broken _ _ _ _) (fun q884 q884_z => ?_)
        refine j_istore (lv9 := [(0, .ref (fad F k0)), (1, .int x1), (2, .int x2), (3, .int x3), (4, .int r2), (5, .int q8.1), (6, .int q884.1)]) C d_RM_hearSample_61 rfl rfl (by decide) ?_
        refine j_sub (lv9 := [(0, .ref (fad F k0)), (1, .int x1), (2, .int x2), (3, .int x3), (4, .int r2), (5, .int q8.1)]) [0, 1, 2, 3, 4, 5] rfl ?_
        exact H596 q884.2
theorem c_RM_hearSample {l : Launch} {D : va_G} {G : GC} {ad : Nat → Nat} {k0 : Nat} (h0k : Is k0 11) (x1 : Int32) (x2 : Int32) (x3 : Int32) (σ : Mem) {q : Mem} (hq : f_RM_hearSample k0 x1 x2 x3 σ = some q) : Ctr l D G ad ⟨"LineFramesModel", "hearSample", "(III)V"⟩ prog_13_method_46_code 9 none 3 66 [.ref (ad k0), .int x1, .int x2, .int x3] σ (.inl none, q) := ctr_J (cv := (cvO cvM)) (E := f_RM_hearSample k0 x1 x2 x3 σ) (by decide +kernel) (Nat.le_of_ble_eq_true rfl) (by rw [hq]; rfl) (fun F h C => by subst h; exact w_RM_hearSample C h0k x1 x2 x3 σ)
/-! LineFramesModel hearEnd ()V -/
theorem d_RM_hearEnd_0 : decode prog_13_method_47_code 0 = .ok (.aload_n 0, 1) := by decide +kernel
theorem d_RM_hearEnd_1 : decode prog_13_method_47_code 1 = .ok (.getfield 260, 3) := by decide +kernel
theorem d_RM_hearEnd_4 : decode prog_13_method_47_code 4 = .ok (.ifCond .le 32, 3) := by decide +kernel
theorem d_RM_hearEnd_7 : decode prog_13_method_47_code 7 = .ok (.aload_n 0, 1) := by decide +kernel
theorem d_RM_hearEnd_8 : decode prog_13_method_47_code 8 = .ok (.getfield 210, 3) := by decide +kernel
theorem d_RM_hearEnd_11 : decode prog_13_method_47_code 11 = .ok (.ifCond .ne 25, 3) := by decide +kernel
theorem d_RM_hearEnd_14 : decode prog_13_method_47_code 14 = .ok (.aload_n 0, 1) := by decide +kernel
theorem d_RM_hearEnd_15 : decode prog_13_method_47_code 15 = .ok (.invokevirtual 275, 3) := by decide +kernel
theorem d_RM_hearEnd_18 : decode prog_13_method_47_code 18 = .ok (.iconst 1, 1) := by decide +kernel
theorem d_RM_hearEnd_19 : decode prog_13_method_47_code 19 = .ok (.if_icmp .ne (-19), 3) := by decide +kernel
theorem d_RM_hearEnd_22 : decode prog_13_method_47_code 22 = .ok (.aload_n 0, 1) := by decide +kernel
theorem d_RM_hearEnd_23 : decode prog_13_method_47_code 23 = .ok (.bipush 7, 2) := by decide +kernel
theorem d_RM_hearEnd_25 : decode prog_13_method_47_code 25 = .ok (.aload_n 0, 1) := by decide +kernel
theorem d_RM_hearEnd_26 : decode prog_13_method_47_code 26 = .ok (.getfield 272, 3) := by decide +kernel
theorem d_RM_hearEnd_29 : decode prog_13_method_47_code 29 = .ok (.invokevirtual 219, 3) := by decide +kernel
theorem d_RM_hearEnd_32 : decode prog_13_method_47_code 32 = .ok (.istore_n 1, 1) := by decide +kernel
theorem d_RM_hearEnd_33 : decode prog_13_method_47_code 33 = .ok (.goto (-33), 3) := by decide +kernel
theorem d_RM_hearEnd_36 : decode prog_13_method_47_code 36 = .ok (.aload_n 0, 1) := by decide +kernel
theorem d_RM_hearEnd_37 : decode prog_13_method_47_code 37 = .ok (.getfield 210, 3) := by decide +kernel
theorem d_RM_hearEnd_40 : decode prog_13_method_47_code 40 = .ok (.ifCond .ne 67, 3) := by decide +kernel
theorem d_RM_hearEnd_43 : decode prog_13_method_47_code 43 = .ok (.aload_n 0, 1) := by decide +kernel
theorem d_RM_hearEnd_44 : decode prog_13_method_47_code 44 = .ok (.getfield 266, 3) := by decide +kernel
theorem d_RM_hearEnd_47 : decode prog_13_method_47_code 47 = .ok (.ifCond .eq 60, 3) := by decide +kernel
theorem d_RM_hearEnd_50 : decode prog_13_method_47_code 50 = .ok (.aload_n 0, 1) := by decide +kernel
theorem d_RM_hearEnd_51 : decode prog_13_method_47_code 51 = .ok (.getfield 263, 3) := by decide +kernel
theorem d_RM_hearEnd_54 : decode prog_13_method_47_code 54 = .ok (.aload_n 0, 1) := by decide +kernel
theorem d_RM_hearEnd_55 : decode prog_13_method_47_code 55 = .ok (.getfield 207, 3) := by decide +kernel
theorem d_RM_hearEnd_58 : decode prog_13_method_47_code 58 = .ok (.if_icmp .lt 16, 3) := by decide +kernel
theorem d_RM_hearEnd_61 : decode prog_13_method_47_code 61 = .ok (.aload_n 0, 1) := by decide +kernel
theorem d_RM_hearEnd_62 : decode prog_13_method_47_code 62 = .ok (.iconst 1, 1) := by decide +kernel
theorem d_RM_hearEnd_63 : decode prog_13_method_47_code 63 = .ok (.aload_n 0, 1) := by decide +kernel
theorem d_RM_hearEnd_64 : decode prog_13_method_47_code 64 = .ok (.getfield 207, 3) := by decide +kernel
theorem d_RM_hearEnd_67 : decode prog_13_method_47_code 67 = .ok (.invokevirtual 219, 3) := by decide +kernel
theorem d_RM_hearEnd_70 : decode prog_13_method_47_code 70 = .ok (.istore_n 1, 1) := by decide +kernel
theorem d_RM_hearEnd_71 : decode prog_13_method_47_code 71 = .ok (.goto 26, 3) := by decide +kernel
theorem d_RM_hearEnd_74 : decode prog_13_method_47_code 74 = .ok (.aload_n 0, 1) := by decide +kernel
theorem d_RM_hearEnd_75 : decode prog_13_method_47_code 75 = .ok (.getfield 32, 3) := by decide +kernel
theorem d_RM_hearEnd_78 : decode prog_13_method_47_code 78 = .ok (.aload_n 0, 1) := by decide +kernel
theorem d_RM_hearEnd_79 : decode prog_13_method_47_code 79 = .ok (.getfield 263, 3) := by decide +kernel
theorem d_RM_hearEnd_82 : decode prog_13_method_47_code 82 = .ok (.iaload, 1) := by decide +kernel
theorem d_RM_hearEnd_83 : decode prog_13_method_47_code 83 = .ok (.ifCond .eq 14, 3) := by decide +kernel
theorem d_RM_hearEnd_86 : decode prog_13_method_47_code 86 = .ok (.aload_n 0, 1) := by decide +kernel
theorem d_RM_hearEnd_87 : decode prog_13_method_47_code 87 = .ok (.bipush 7, 2) := by decide +kernel
theorem d_RM_hearEnd_89 : decode prog_13_method_47_code 89 = .ok (.aload_n 0, 1) := by decide +kernel
theorem d_RM_hearEnd_90 : decode prog_13_method_47_code 90 = .ok (.getfield 263, 3) := by decide +kernel
theorem d_RM_hearEnd_93 : decode prog_13_method_47_code 93 = .ok (.invokevirtual 219, 3) := by decide +kernel
theorem d_RM_hearEnd_96 : decode prog_13_method_47_code 96 = .ok (.istore_n 1, 1) := by decide +kernel
theorem d_RM_hearEnd_97 : decode prog_13_method_47_code 97 = .ok (.aload_n 0, 1) := by decide +kernel
theorem d_RM_hearEnd_98 : decode prog_13_method_47_code 98 = .ok (.dup, 1) := by decide +kernel
theorem d_RM_hearEnd_99 : decode prog_13_method_47_code 99 = .ok (.getfield 263, 3) := by decide +kernel
theorem d_RM_hearEnd_102 : decode prog_13_method_47_code 102 = .ok (.iconst 1, 1) := by decide +kernel
theorem d_RM_hearEnd_103 : decode prog_13_method_47_code 103 = .ok (.iadd, 1) := by decide +kernel
theorem d_RM_hearEnd_104 : decode prog_13_method_47_code 104 = .ok (.putfield 263, 3) := by decide +kernel
theorem d_RM_hearEnd_107 : decode prog_13_method_47_code 107 = .ok (.aload_n 0, 1) := by decide +kernel
theorem d_RM_hearEnd_108 : decode prog_13_method_47_code 108 = .ok (.iconst 0, 1) := by decide +kernel
theorem d_RM_hearEnd_109 : decode prog_13_method_47_code 109 = .ok (.putfield 266, 3) := by decide +kernel
theorem d_RM_hearEnd_112 : decode prog_13_method_47_code 112 = .ok (.return_, 1) := by decide +kernel
def L_RM_hearEnd_0 (r0 : Nat) : Nat → Mem →  Option (Mem)
  | 0, _ => none
  | n + 1, σ =>
  if (σ r0 62) ≤ 0 then
  some σ
  else
  if (σ r0 28) = 0 then
  (f_RM_hear r0 σ).bind fun q4 =>
  if q4.1 = (1 : Int32) then
  lt (f_RM_broken r0 (7 : Int32) (q4.2 r0 63) q4.2) fun q6 =>
  L_RM_hearEnd_0 r0 n q6.2
  else
  L_RM_hearEnd_0 r0 n q4.2
  else
  some σ
def f_RM_hearEnd (k0 : Nat) (σ : Mem) : Option (Mem) :=
  (L_RM_hearEnd_0 k0 9999 σ).bind fun q7 =>
  lt (fun  (σ17 : Mem) => 
  lt (mput σ17 k0 64 (0 : Int32)) fun σ20 =>
  some (σ20)) fun K18 =>
  if (q7 k0 28) = 0 then
  if (q7 k0 64) = 0 then
  K18 q7
  else
  lt (fun  (σ36 : Mem) => 
  lt (mput σ36 k0 60 ((σ36 k0 60) + (1 : Int32))) fun σ39 =>
  K18 σ39) fun K37 =>
  if (q7 k0 60) < (q7 k0 19) then
  if inb (q7 k0 60) (wln (wtg k0 18)) = true then
  if (q7 (wtg k0 18) (q7 k0 60).toNatClampNeg) = 0 then
  K37 q7
  else
  lt (f_RM_broken k0 (7 : Int32) (q7 k0 60) q7) fun q43 =>
  K37 q43.2
  else none
  else
  lt (f_RM_broken k0 (1 : Int32) (q7 k0 19) q7) fun q44 =>
  K37 q44.2
  else
  K18 q7
set_option maxHeartbeats 4000000 in
set_option maxRecDepth 100000 in
theorem wL_RM_hearEnd_0 {F : Fx} (C : Ctx F prog_13_method_47_code 2 "LineFramesModel" none 2 43) {cv : Option (Mem) → Option Rs} (h0 : cv none = none) (r0 : Nat) (hr0 : Is r0 11) (hex : ∀ q : Mem, J F 2 cv (some q) q 36 [(0, .ref (fad F r0))] []) : ∀ (n : Nat) (σ : Mem), J F 2 cv (L_RM_hearEnd_0 r0 n σ) σ 0 [(0, .ref (fad F r0))] [] := by
  intro n
  induction n with
  | zero => intro σ hE; rw [L_RM_hearEnd_0, h0] at hE; cases hE
  | succ n ih =>
    intro σ
    rw [L_RM_hearEnd_0]
    refine j_aload_n C d_RM_hearEnd_0 0 rfl ?_
    refine j_getI C hr0 fl_RM_260 rfl d_RM_hearEnd_1 ?_
    refine j_if_le (tgt := 36) C d_RM_hearEnd_4 (by decide) (fun c1 => ?_) (fun c1 => ?_)
    · exact hex σ
    · refine j_aload_n C d_RM_hearEnd_7 0 rfl ?_
      refine j_getI C hr0 fl_RM_210 rfl d_RM_hearEnd_8 ?_
      refine j_if_ne (tgt := 36) C d_RM_hearEnd_11 (by decide) (fun c2 => ?_) (fun c2 => ?_)
      · exact hex σ
      · refine j_aload_n C d_RM_hearEnd_14 0 rfl ?_
        refine j_bind (by exact h0) (fun q4 e3 => ?_)
        refine j_callVi C mv_RM_275 [] [] hr0 (c_RM_hear hr0 σ e3) rfl rfl (by decide) (Nat.le_of_ble_eq_true rfl) d_RM_hearEnd_15 ?_
        refine j_iconst (v := (1 : Int32)) C d_RM_hearEnd_18 (by decide) ?_
        refine j_icmp_ne (tgt := 0) C d_RM_hearEnd_19 (by decide) (fun c5 => ?_) (fun c5 => ?_)
        · exact ih q4.2
        · refine j_aload_n C d_RM_hearEnd_22 0 rfl ?_
          refine j_bipush (v := (7 : Int32)) C d_RM_hearEnd_23 (by decide) ?_
          refine j_aload_n C d_RM_hearEnd_25 0 rfl ?_
          refine j_getI C hr0 fl_RM_272 rfl d_RM_hearEnd_26 ?_
          refine j_callVi C mv_RM_219 [.int (7 : Int32), .int (q4.2 r0 63)] [] hr0 (c_RM_broken hr0 (7 : Int32) (q4.2 r0 63) q4.2) rfl rfl (by decide) (Nat.le_of_ble_eq_true rfl) d_RM_hearEnd_29 ?_
          refine j_genIMz (z_RM_broken _ _ _ _) (fun q6 q6_z => ?_)
          refine j_istore_n (lv9 := [(0, .ref (fad F r0)), (1, .int q6.1)]) C d_RM_hearEnd_32 rfl rfl (by decide) ?_
          refine j_goto (tgt := 0) C d_RM_hearEnd_33 (by decide) ?_
          refine j_sub (lv9 := [(0, .ref (fad F r0))]) [0] rfl ?_
          exact ih q6.2
set_option maxHeartbeats 4000000 in
set_option maxRecDepth 100000 in
theorem w_RM_hearEnd {F : Fx} (C : Ctx F prog_13_method_47_code 2 "LineFramesModel" none 2 43) {k0 : Nat} (h0k : Is k0 11) (σ : Mem) : J F 2 (cvO cvM) (f_RM_hearEnd k0 σ) σ 0 [(0, .ref (fad F k0))] [] := by
  unfold f_RM_hearEnd
  refine j_loop (wL_RM_hearEnd_0 C rfl k0 h0k (fun q7 => j_some ?_) 9999 σ)
  refine j_aload_n C d_RM_hearEnd_36 0 rfl ?_
  refine j_getI C h0k fl_RM_210 rfl d_RM_hearEnd_37 ?_
  refine j_join0m 107 (fun _ => [(0, .ref (fad F k0))]) (fun _ => []) (fun σ17 => ?_) (fun K18 H19 => ?_)
  · refine j_aload_n C d_RM_hearEnd_107 0 rfl ?_
    refine j_iconst (v := (0 : Int32)) C d_RM_hearEnd_108 (by decide) ?_
    refine j_put C h0k fl_RM_266 fw_11_64 rfl (nz01 (Or.inl rfl)) rfl d_RM_hearEnd_109 (fun σ20 => ?_)
    exact j_vret C (fun ρ h => leaf_eq h) d_RM_hearEnd_112
  · refine j_if_ne (tgt := 107) C d_RM_hearEnd_40 (by decide) (fun c21 => ?_) (fun c21 => ?_)
    · exact H19 q7
    · refine j_aload_n C d_RM_hearEnd_43 0 rfl ?_
      refine j_getI C h0k fl_RM_266 rfl d_RM_hearEnd_44 ?_
      refine j_if_eq (tgt := 107) C d_RM_hearEnd_47 (by decide) (fun c22 => ?_) (fun c22 => ?_)
      · exact H19 q7
      · refine j_aload_n C d_RM_hearEnd_50 0 rfl ?_
        refine j_getI C h0k fl_RM_263 rfl d_RM_hearEnd_51 ?_
        refine j_aload_n C d_RM_hearEnd_54 0 rfl ?_
        refine j_getI C h0k fl_RM_207 rfl d_RM_hearEnd_55 ?_
        refine j_join0m 97 (fun _ => [(0, .ref (fad F k0))]) (fun _ => []) (fun σ36 => ?_) (fun K37 H38 => ?_)
        · refine j_aload_n C d_RM_hearEnd_97 0 rfl ?_
          refine j_dup C d_RM_hearEnd_98 rfl ?_
          refine j_getI C h0k fl_RM_263 rfl d_RM_hearEnd_99 ?_
          refine j_iconst (v := (1 : Int32)) C d_RM_hearEnd_102 (by decide) ?_
          refine j_iadd C d_RM_hearEnd_103 ?_
          refine j_put C h0k fl_RM_263 fw_11_60 rfl rfl rfl d_RM_hearEnd_104 (fun σ39 => ?_)
          exact H19 σ39
        · refine j_icmp_lt (tgt := 74) C d_RM_hearEnd_58 (by decide) (fun c40 => ?_) (fun c40 => ?_)
          · refine j_aload_n C d_RM_hearEnd_74 0 rfl ?_
            refine j_getR C h0k fl_RM_32 rfl d_RM_hearEnd_75 ?_
            refine j_aload_n C d_RM_hearEnd_78 0 rfl ?_
            refine j_getI C h0k fl_RM_263 rfl d_RM_hearEnd_79 ?_
            refine j_need rfl (fun g41 => ?_)
            refine j_iald C (tg_11_18 _ h0k) (inb_in g41) d_RM_hearEnd_82 ?_
            refine j_if_eq (tgt := 97) C d_RM_hearEnd_83 (by decide) (fun c42 => ?_) (fun c42 => ?_)
            · exact H38 q7
            · refine j_aload_n C d_RM_hearEnd_86 0 rfl ?_
              refine j_bipush (v := (7 : Int32)) C d_RM_hearEnd_87 (by decide) ?_
              refine j_aload_n C d_RM_hearEnd_89 0 rfl ?_
              refine j_getI C h0k fl_RM_263 rfl d_RM_hearEnd_90 ?_
              refine j_callVi C mv_RM_219 [.int (7 : Int32), .int (q7 k0 60)] [] h0k (c_RM_broken h0k (7 : Int32) (q7 k0 60) q7) rfl rfl (by decide) (Nat.le_of_ble_eq_true rfl) d_RM_hearEnd_93 ?_
              refine j_genIMz (z_RM_broken _ _ _ _) (fun q43 q43_z => ?_)
              refine j_istore_n (lv9 := [(0, .ref (fad F k0)), (1, .int q43.1)]) C d_RM_hearEnd_96 rfl rfl (by decide) ?_
              refine j_sub (lv9 := [(0, .ref (fad F k0))]) [0] rfl ?_
              exact H38 q43.2
          · refine j_aload_n C d_RM_hearEnd_61 0 rfl ?_
            refine j_iconst (v := (1 : Int32)) C d_RM_hearEnd_62 (by decide) ?_
            refine j_aload_n C d_RM_hearEnd_63 0 rfl ?_
            refine j_getI C h0k fl_RM_207 rfl d_RM_hearEnd_64 ?_
            refine j_callVi C mv_RM_219 [.int (1 : Int32), .int (q7 k0 19)] [] h0k (c_RM_broken h0k (1 : Int32) (q7 k0 19) q7) rfl rfl (by decide) (Nat.le_of_ble_eq_true rfl) d_RM_hearEnd_67 ?_
            refine j_genIMz (z_RM_broken _ _ _ _) (fun q44 q44_z => ?_)
            refine j_istore_n (lv9 := [(0, .ref (fad F k0)), (1, .int q44.1)]) C d_RM_hearEnd_70 rfl rfl (by decide) ?_
            refine j_goto (tgt := 97) C d_RM_hearEnd_71 (by decide) ?_
            refine j_sub (lv9 := [(0, .ref (fad F k0))]) [0] rfl ?_
            exact H38 q44.2
theorem c_RM_hearEnd {l : Launch} {D : va_G} {G : GC} {ad : Nat → Nat} {k0 : Nat} (h0k : Is k0 11) (σ : Mem) {q : Mem} (hq : f_RM_hearEnd k0 σ = some q) : Ctr l D G ad ⟨"LineFramesModel", "hearEnd", "()V"⟩ prog_13_method_47_code 2 none 2 43 [.ref (ad k0)] σ (.inl none, q) := ctr_J (cv := (cvO cvM)) (E := f_RM_hearEnd k0 σ) (by decide +kernel) (Nat.le_of_ble_eq_true rfl) (by rw [hq]; rfl) (fun F h C => by subst h; exact w_RM_hearEnd C h0k σ)
/-! LineFramesModel hearRestart (II)V -/
theorem d_RM_hearRestart_0 : decode prog_13_method_48_code 0 = .ok (.aload_n 0, 1) := by decide +kernel
theorem d_RM_hearRestart_1 : decode prog_13_method_48_code 1 = .ok (.getfield 210, 3) := by decide +kernel
theorem d_RM_hearRestart_4 : decode prog_13_method_48_code 4 = .ok (.ifCond .le 4, 3) := by decide +kernel
theorem d_RM_hearRestart_7 : decode prog_13_method_48_code 7 = .ok (.return_, 1) := by decide +kernel
theorem d_RM_hearRestart_8 : decode prog_13_method_48_code 8 = .ok (.aload_n 0, 1) := by decide +kernel
theorem d_RM_hearRestart_9 : decode prog_13_method_48_code 9 = .ok (.getfield 207, 3) := by decide +kernel
theorem d_RM_hearRestart_12 : decode prog_13_method_48_code 12 = .ok (.aload_n 0, 1) := by decide +kernel
theorem d_RM_hearRestart_13 : decode prog_13_method_48_code 13 = .ok (.getfield 263, 3) := by decide +kernel
theorem d_RM_hearRestart_16 : decode prog_13_method_48_code 16 = .ok (.isub, 1) := by decide +kernel
theorem d_RM_hearRestart_17 : decode prog_13_method_48_code 17 = .ok (.iconst 2, 1) := by decide +kernel
theorem d_RM_hearRestart_18 : decode prog_13_method_48_code 18 = .ok (.if_icmp .ge 16, 3) := by decide +kernel
theorem d_RM_hearRestart_21 : decode prog_13_method_48_code 21 = .ok (.aload_n 0, 1) := by decide +kernel
theorem d_RM_hearRestart_22 : decode prog_13_method_48_code 22 = .ok (.iconst 1, 1) := by decide +kernel
theorem d_RM_hearRestart_23 : decode prog_13_method_48_code 23 = .ok (.aload_n 0, 1) := by decide +kernel
theorem d_RM_hearRestart_24 : decode prog_13_method_48_code 24 = .ok (.getfield 207, 3) := by decide +kernel
theorem d_RM_hearRestart_27 : decode prog_13_method_48_code 27 = .ok (.invokevirtual 219, 3) := by decide +kernel
theorem d_RM_hearRestart_30 : decode prog_13_method_48_code 30 = .ok (.istore_n 3, 1) := by decide +kernel
theorem d_RM_hearRestart_31 : decode prog_13_method_48_code 31 = .ok (.goto 83, 3) := by decide +kernel
theorem d_RM_hearRestart_34 : decode prog_13_method_48_code 34 = .ok (.aload_n 0, 1) := by decide +kernel
theorem d_RM_hearRestart_35 : decode prog_13_method_48_code 35 = .ok (.getfield 32, 3) := by decide +kernel
theorem d_RM_hearRestart_38 : decode prog_13_method_48_code 38 = .ok (.aload_n 0, 1) := by decide +kernel
theorem d_RM_hearRestart_39 : decode prog_13_method_48_code 39 = .ok (.getfield 263, 3) := by decide +kernel
theorem d_RM_hearRestart_42 : decode prog_13_method_48_code 42 = .ok (.iaload, 1) := by decide +kernel
theorem d_RM_hearRestart_43 : decode prog_13_method_48_code 43 = .ok (.sipush 255, 3) := by decide +kernel
theorem d_RM_hearRestart_46 : decode prog_13_method_48_code 46 = .ok (.if_icmp .ne 25, 3) := by decide +kernel
theorem d_RM_hearRestart_49 : decode prog_13_method_48_code 49 = .ok (.aload_n 0, 1) := by decide +kernel
theorem d_RM_hearRestart_50 : decode prog_13_method_48_code 50 = .ok (.getfield 32, 3) := by decide +kernel
theorem d_RM_hearRestart_53 : decode prog_13_method_48_code 53 = .ok (.aload_n 0, 1) := by decide +kernel
theorem d_RM_hearRestart_54 : decode prog_13_method_48_code 54 = .ok (.getfield 263, 3) := by decide +kernel
theorem d_RM_hearRestart_57 : decode prog_13_method_48_code 57 = .ok (.iconst 1, 1) := by decide +kernel
theorem d_RM_hearRestart_58 : decode prog_13_method_48_code 58 = .ok (.iadd, 1) := by decide +kernel
theorem d_RM_hearRestart_59 : decode prog_13_method_48_code 59 = .ok (.iaload, 1) := by decide +kernel
theorem d_RM_hearRestart_60 : decode prog_13_method_48_code 60 = .ok (.sipush 208, 3) := by decide +kernel
theorem d_RM_hearRestart_63 : decode prog_13_method_48_code 63 = .ok (.iload_n 1, 1) := by decide +kernel
theorem d_RM_hearRestart_64 : decode prog_13_method_48_code 64 = .ok (.bipush 8, 2) := by decide +kernel
theorem d_RM_hearRestart_66 : decode prog_13_method_48_code 66 = .ok (.irem, 1) := by decide +kernel
theorem d_RM_hearRestart_67 : decode prog_13_method_48_code 67 = .ok (.iadd, 1) := by decide +kernel
theorem d_RM_hearRestart_68 : decode prog_13_method_48_code 68 = .ok (.if_icmp .eq 17, 3) := by decide +kernel
theorem d_RM_hearRestart_71 : decode prog_13_method_48_code 71 = .ok (.aload_n 0, 1) := by decide +kernel
theorem d_RM_hearRestart_72 : decode prog_13_method_48_code 72 = .ok (.bipush 8, 2) := by decide +kernel
theorem d_RM_hearRestart_74 : decode prog_13_method_48_code 74 = .ok (.aload_n 0, 1) := by decide +kernel
theorem d_RM_hearRestart_75 : decode prog_13_method_48_code 75 = .ok (.getfield 263, 3) := by decide +kernel
theorem d_RM_hearRestart_78 : decode prog_13_method_48_code 78 = .ok (.invokevirtual 219, 3) := by decide +kernel
theorem d_RM_hearRestart_81 : decode prog_13_method_48_code 81 = .ok (.istore_n 3, 1) := by decide +kernel
theorem d_RM_hearRestart_82 : decode prog_13_method_48_code 82 = .ok (.goto 32, 3) := by decide +kernel
theorem d_RM_hearRestart_85 : decode prog_13_method_48_code 85 = .ok (.aload_n 0, 1) := by decide +kernel
theorem d_RM_hearRestart_86 : decode prog_13_method_48_code 86 = .ok (.dup, 1) := by decide +kernel
theorem d_RM_hearRestart_87 : decode prog_13_method_48_code 87 = .ok (.getfield 281, 3) := by decide +kernel
theorem d_RM_hearRestart_90 : decode prog_13_method_48_code 90 = .ok (.iconst 1, 1) := by decide +kernel
theorem d_RM_hearRestart_91 : decode prog_13_method_48_code 91 = .ok (.iadd, 1) := by decide +kernel
theorem d_RM_hearRestart_92 : decode prog_13_method_48_code 92 = .ok (.putfield 281, 3) := by decide +kernel
theorem d_RM_hearRestart_95 : decode prog_13_method_48_code 95 = .ok (.aload_n 0, 1) := by decide +kernel
theorem d_RM_hearRestart_96 : decode prog_13_method_48_code 96 = .ok (.dup, 1) := by decide +kernel
theorem d_RM_hearRestart_97 : decode prog_13_method_48_code 97 = .ok (.getfield 263, 3) := by decide +kernel
theorem d_RM_hearRestart_100 : decode prog_13_method_48_code 100 = .ok (.iconst 2, 1) := by decide +kernel
theorem d_RM_hearRestart_101 : decode prog_13_method_48_code 101 = .ok (.iadd, 1) := by decide +kernel
theorem d_RM_hearRestart_102 : decode prog_13_method_48_code 102 = .ok (.putfield 263, 3) := by decide +kernel
theorem d_RM_hearRestart_105 : decode prog_13_method_48_code 105 = .ok (.aload_n 0, 1) := by decide +kernel
theorem d_RM_hearRestart_106 : decode prog_13_method_48_code 106 = .ok (.iload_n 2, 1) := by decide +kernel
theorem d_RM_hearRestart_107 : decode prog_13_method_48_code 107 = .ok (.aload_n 0, 1) := by decide +kernel
theorem d_RM_hearRestart_108 : decode prog_13_method_48_code 108 = .ok (.getfield 248, 3) := by decide +kernel
theorem d_RM_hearRestart_111 : decode prog_13_method_48_code 111 = .ok (.invokevirtual 189, 3) := by decide +kernel
theorem d_RM_hearRestart_114 : decode prog_13_method_48_code 114 = .ok (.return_, 1) := by decide +kernel
def f_RM_hearRestart (k0 : Nat) (x1 : Int32) (x2 : Int32) (σ : Mem) : Option (Mem) :=
  if (σ k0 28) ≤ 0 then
  if (2 : Int32) ≤ ((σ k0 19) - (σ k0 60)) then
  if inb (σ k0 60) (wln (wtg k0 18)) = true then
  lt (fun  (σ23 : Mem) => 
  lt (f_RM_broken k0 (8 : Int32) (σ23 k0 60) σ23) fun q26 =>
  some (q26.2)) fun K24 =>
  if (σ (wtg k0 18) (σ k0 60).toNatClampNeg) = (255 : Int32) then
  if inb ((σ k0 60) + (1 : Int32)) (wln (wtg k0 18)) = true then
  if (σ (wtg k0 18) ((σ k0 60) + (1 : Int32)).toNatClampNeg) = ((208 : Int32) + (x1 - x1 / (8 : Int32) * (8 : Int32))) then
  lt (mput σ k0 30 ((σ k0 30) + (1 : Int32))) fun σ30 =>
  lt (mput σ30 k0 60 ((σ30 k0 60) + (2 : Int32))) fun σ31 =>
  (f_RM_begin k0 x2 (σ31 k0 39) σ31).bind fun σ33 =>
  some (σ33)
  else
  K24 σ
  else none
  else
  K24 σ
  else none
  else
  lt (f_RM_broken k0 (1 : Int32) (σ k0 19) σ) fun q34 =>
  some (q34.2)
  else
  some (σ)
set_option maxHeartbeats 4000000 in
set_option maxRecDepth 100000 in
theorem w_RM_hearRestart {F : Fx} (C : Ctx F prog_13_method_48_code 4 "LineFramesModel" none 1 23) {k0 : Nat} (h0k : Is k0 11) (x1 : Int32) (x2 : Int32) (σ : Mem) : J F 4 (cvO cvM) (f_RM_hearRestart k0 x1 x2 σ) σ 0 [(0, .ref (fad F k0)), (1, .int x1), (2, .int x2)] [] := by
  unfold f_RM_hearRestart
  refine j_aload_n C d_RM_hearRestart_0 0 rfl ?_
  refine j_getI C h0k fl_RM_210 rfl d_RM_hearRestart_1 ?_
  refine j_if_le (tgt := 8) C d_RM_hearRestart_4 (by decide) (fun c1 => ?_) (fun c1 => ?_)
  · refine j_aload_n C d_RM_hearRestart_8 0 rfl ?_
    refine j_getI C h0k fl_RM_207 rfl d_RM_hearRestart_9 ?_
    refine j_aload_n C d_RM_hearRestart_12 0 rfl ?_
    refine j_getI C h0k fl_RM_263 rfl d_RM_hearRestart_13 ?_
    refine j_isub C d_RM_hearRestart_16 ?_
    refine j_iconst (v := (2 : Int32)) C d_RM_hearRestart_17 (by decide) ?_
    refine j_icmp_ge (tgt := 34) C d_RM_hearRestart_18 (by decide) (fun c4 => ?_) (fun c4 => ?_)
    · refine j_aload_n C d_RM_hearRestart_34 0 rfl ?_
      refine j_getR C h0k fl_RM_32 rfl d_RM_hearRestart_35 ?_
      refine j_aload_n C d_RM_hearRestart_38 0 rfl ?_
      refine j_getI C h0k fl_RM_263 rfl d_RM_hearRestart_39 ?_
      refine j_need rfl (fun g5 => ?_)
      refine j_iald C (tg_11_18 _ h0k) (inb_in g5) d_RM_hearRestart_42 ?_
      refine j_sipush (v := (255 : Int32)) C d_RM_hearRestart_43 (by decide) ?_
      refine j_join0m 71 (fun _ => [(0, .ref (fad F k0)), (1, .int x1), (2, .int x2)]) (fun _ => []) (fun σ23 => ?_) (fun K24 H25 => ?_)
      · refine j_aload_n C d_RM_hearRestart_71 0 rfl ?_
        refine j_bipush (v := (8 : Int32)) C d_RM_hearRestart_72 (by decide) ?_
        refine j_aload_n C d_RM_hearRestart_74 0 rfl ?_
        refine j_getI C h0k fl_RM_263 rfl d_RM_hearRestart_75 ?_
        refine j_callVi C mv_RM_219 [.int (8 : Int32), .int (σ23 k0 60)] [] h0k (c_RM_broken h0k (8 : Int32) (σ23 k0 60) σ23) rfl rfl (by decide) (Nat.le_of_ble_eq_true rfl) d_RM_hearRestart_78 ?_
        refine j_genIMz (z_RM_broken _ _ _ _) (fun q26 q26_z => ?_)
        refine j_istore_n (lv9 := [(0, .ref (fad F k0)), (1, .int x1), (2, .int x2), (3, .int q26.1)]) C d_RM_hearRestart_81 rfl rfl (by decide) ?_
        refine j_goto (tgt := 114) C d_RM_hearRestart_82 (by decide) ?_
        exact j_vret C (fun ρ h => leaf_eq h) d_RM_hearRestart_114
      · refine j_icmp_ne (tgt := 71) C d_RM_hearRestart_46 (by decide) (fun c27 => ?_) (fun c27 => ?_)
        · exact H25 σ
        · refine j_aload_n C d_RM_hearRestart_49 0 rfl ?_
          refine j_getR C h0k fl_RM_32 rfl d_RM_hearRestart_50 ?_
          refine j_aload_n C d_RM_hearRestart_53 0 rfl ?_
          refine j_getI C h0k fl_RM_263 rfl d_RM_hearRestart_54 ?_
          refine j_iconst (v := (1 : Int32)) C d_RM_hearRestart_57 (by decide) ?_
          refine j_iadd C d_RM_hearRestart_58 ?_
          refine j_need rfl (fun g28 => ?_)
          refine j_iald C (tg_11_18 _ h0k) (inb_in g28) d_RM_hearRestart_59 ?_
          refine j_sipush (v := (208 : Int32)) C d_RM_hearRestart_60 (by decide) ?_
          refine j_iload_n C d_RM_hearRestart_63 1 rfl ?_
          refine j_bipush (v := (8 : Int32)) C d_RM_hearRestart_64 (by decide) ?_
          refine j_irem C d_RM_hearRestart_66 (by decide) ?_
          refine j_iadd C d_RM_hearRestart_67 ?_
          refine j_icmp_eq (tgt := 85) C d_RM_hearRestart_68 (by decide) (fun c29 => ?_) (fun c29 => ?_)
          · refine j_aload_n C d_RM_hearRestart_85 0 rfl ?_
            refine j_dup C d_RM_hearRestart_86 rfl ?_
            refine j_getI C h0k fl_RM_281 rfl d_RM_hearRestart_87 ?_
            refine j_iconst (v := (1 : Int32)) C d_RM_hearRestart_90 (by decide) ?_
            refine j_iadd C d_RM_hearRestart_91 ?_
            refine j_put C h0k fl_RM_281 fw_11_30 rfl rfl rfl d_RM_hearRestart_92 (fun σ30 => ?_)
            refine j_aload_n C d_RM_hearRestart_95 0 rfl ?_
            refine j_dup C d_RM_hearRestart_96 rfl ?_
            refine j_getI C h0k fl_RM_263 rfl d_RM_hearRestart_97 ?_
            refine j_iconst (v := (2 : Int32)) C d_RM_hearRestart_100 (by decide) ?_
            refine j_iadd C d_RM_hearRestart_101 ?_
            refine j_put C h0k fl_RM_263 fw_11_60 rfl rfl rfl d_RM_hearRestart_102 (fun σ31 => ?_)
            refine j_aload_n C d_RM_hearRestart_105 0 rfl ?_
            refine j_iload_n C d_RM_hearRestart_106 2 rfl ?_
            refine j_aload_n C d_RM_hearRestart_107 0 rfl ?_
            refine j_getI C h0k fl_RM_248 rfl d_RM_hearRestart_108 ?_
            refine j_bind rfl (fun σ33 e32 => ?_)
            refine j_callVv C mv_RM_189 [.int x2, .int (σ31 k0 39)] [] h0k (c_RM_begin h0k x2 (σ31 k0 39) σ31 e32) rfl rfl (by decide) (Nat.le_of_ble_eq_true rfl) d_RM_hearRestart_111 ?_
            exact j_vret C (fun ρ h => leaf_eq h) d_RM_hearRestart_114
          · exact H25 σ
    · refine j_aload_n C d_RM_hearRestart_21 0 rfl ?_
      refine j_iconst (v := (1 : Int32)) C d_RM_hearRestart_22 (by decide) ?_
      refine j_aload_n C d_RM_hearRestart_23 0 rfl ?_
      refine j_getI C h0k fl_RM_207 rfl d_RM_hearRestart_24 ?_
      refine j_callVi C mv_RM_219 [.int (1 : Int32), .int (σ k0 19)] [] h0k (c_RM_broken h0k (1 : Int32) (σ k0 19) σ) rfl rfl (by decide) (Nat.le_of_ble_eq_true rfl) d_RM_hearRestart_27 ?_
      refine j_genIMz (z_RM_broken _ _ _ _) (fun q34 q34_z => ?_)
      refine j_istore_n (lv9 := [(0, .ref (fad F k0)), (1, .int x1), (2, .int x2), (3, .int q34.1)]) C d_RM_hearRestart_30 rfl rfl (by decide) ?_
      refine j_goto (tgt := 114) C d_RM_hearRestart_31 (by decide) ?_
      exact j_vret C (fun ρ h => leaf_eq h) d_RM_hearRestart_114
  · exact j_vret C (fun ρ h => leaf_eq h) d_RM_hearRestart_7
theorem c_RM_hearRestart {l : Launch} {D : va_G} {G : GC} {ad : Nat → Nat} {k0 : Nat} (h0k : Is k0 11) (x1 : Int32) (x2 : Int32) (σ : Mem) {q : Mem} (hq : f_RM_hearRestart k0 x1 x2 σ = some q) : Ctr l D G ad ⟨"LineFramesModel", "hearRestart", "(II)V"⟩ prog_13_method_48_code 4 none 1 23 [.ref (ad k0), .int x1, .int x2] σ (.inl none, q) := ctr_J (cv := (cvO cvM)) (E := f_RM_hearRestart k0 x1 x2 σ) (by decide +kernel) (Nat.le_of_ble_eq_true rfl) (by rw [hq]; rfl) (fun F h C => by subst h; exact w_RM_hearRestart C h0k x1 x2 σ)
/-! LineFramesModel hearData (II)V -/
theorem d_RM_hearData_0 : decode prog_13_method_49_code 0 = .ok (.aload_n 0, 1) := by decide +kernel
theorem d_RM_hearData_1 : decode prog_13_method_49_code 1 = .ok (.aload_n 0, 1) := by decide +kernel
theorem d_RM_hearData_2 : decode prog_13_method_49_code 2 = .ok (.getfield 254, 3) := by decide +kernel
theorem d_RM_hearData_5 : decode prog_13_method_49_code 5 = .ok (.putfield 133, 3) := by decide +kernel
theorem d_RM_hearData_8 : decode prog_13_method_49_code 8 = .ok (.aload_n 0, 1) := by decide +kernel
theorem d_RM_hearData_9 : decode prog_13_method_49_code 9 = .ok (.aload_n 0, 1) := by decide +kernel
theorem d_RM_hearData_10 : decode prog_13_method_49_code 10 = .ok (.getfield 236, 3) := by decide +kernel
theorem d_RM_hearData_13 : decode prog_13_method_49_code 13 = .ok (.invokestatic 129, 3) := by decide +kernel
theorem d_RM_hearData_16 : decode prog_13_method_49_code 16 = .ok (.putfield 136, 3) := by decide +kernel
theorem d_RM_hearData_19 : decode prog_13_method_49_code 19 = .ok (.aload_n 0, 1) := by decide +kernel
theorem d_RM_hearData_20 : decode prog_13_method_49_code 20 = .ok (.iconst 0, 1) := by decide +kernel
theorem d_RM_hearData_21 : decode prog_13_method_49_code 21 = .ok (.putfield 260, 3) := by decide +kernel
theorem d_RM_hearData_24 : decode prog_13_method_49_code 24 = .ok (.aload_n 0, 1) := by decide +kernel
theorem d_RM_hearData_25 : decode prog_13_method_49_code 25 = .ok (.iconst 0, 1) := by decide +kernel
theorem d_RM_hearData_26 : decode prog_13_method_49_code 26 = .ok (.putfield 266, 3) := by decide +kernel
theorem d_RM_hearData_29 : decode prog_13_method_49_code 29 = .ok (.aload_n 0, 1) := by decide +kernel
theorem d_RM_hearData_30 : decode prog_13_method_49_code 30 = .ok (.iconst 0, 1) := by decide +kernel
theorem d_RM_hearData_31 : decode prog_13_method_49_code 31 = .ok (.aload_n 0, 1) := by decide +kernel
theorem d_RM_hearData_32 : decode prog_13_method_49_code 32 = .ok (.getfield 248, 3) := by decide +kernel
theorem d_RM_hearData_35 : decode prog_13_method_49_code 35 = .ok (.invokevirtual 189, 3) := by decide +kernel
theorem d_RM_hearData_38 : decode prog_13_method_49_code 38 = .ok (.iconst 0, 1) := by decide +kernel
theorem d_RM_hearData_39 : decode prog_13_method_49_code 39 = .ok (.istore_n 3, 1) := by decide +kernel
theorem d_RM_hearData_40 : decode prog_13_method_49_code 40 = .ok (.iconst 0, 1) := by decide +kernel
theorem d_RM_hearData_41 : decode prog_13_method_49_code 41 = .ok (.istore 4, 2) := by decide +kernel
theorem d_RM_hearData_43 : decode prog_13_method_49_code 43 = .ok (.iload 4, 2) := by decide +kernel
theorem d_RM_hearData_45 : decode prog_13_method_49_code 45 = .ok (.aload_n 0, 1) := by decide +kernel
theorem d_RM_hearData_46 : decode prog_13_method_49_code 46 = .ok (.getfield 239, 3) := by decide +kernel
theorem d_RM_hearData_49 : decode prog_13_method_49_code 49 = .ok (.if_icmp .ge 168, 3) := by decide +kernel
theorem d_RM_hearData_52 : decode prog_13_method_49_code 52 = .ok (.aload_n 0, 1) := by decide +kernel
theorem d_RM_hearData_53 : decode prog_13_method_49_code 53 = .ok (.getfield 210, 3) := by decide +kernel
theorem d_RM_hearData_56 : decode prog_13_method_49_code 56 = .ok (.ifCond .ne 161, 3) := by decide +kernel
theorem d_RM_hearData_59 : decode prog_13_method_49_code 59 = .ok (.aload_n 0, 1) := by decide +kernel
theorem d_RM_hearData_60 : decode prog_13_method_49_code 60 = .ok (.getfield 242, 3) := by decide +kernel
theorem d_RM_hearData_63 : decode prog_13_method_49_code 63 = .ok (.iload_n 2, 1) := by decide +kernel
theorem d_RM_hearData_64 : decode prog_13_method_49_code 64 = .ok (.iload_n 1, 1) := by decide +kernel
theorem d_RM_hearData_65 : decode prog_13_method_49_code 65 = .ok (.isub, 1) := by decide +kernel
theorem d_RM_hearData_66 : decode prog_13_method_49_code 66 = .ok (.imul, 1) := by decide +kernel
theorem d_RM_hearData_67 : decode prog_13_method_49_code 67 = .ok (.istore 5, 2) := by decide +kernel
theorem d_RM_hearData_69 : decode prog_13_method_49_code 69 = .ok (.iconst 0, 1) := by decide +kernel
theorem d_RM_hearData_70 : decode prog_13_method_49_code 70 = .ok (.istore 6, 2) := by decide +kernel
theorem d_RM_hearData_72 : decode prog_13_method_49_code 72 = .ok (.iload 6, 2) := by decide +kernel
theorem d_RM_hearData_74 : decode prog_13_method_49_code 74 = .ok (.iload 5, 2) := by decide +kernel
theorem d_RM_hearData_76 : decode prog_13_method_49_code 76 = .ok (.if_icmp .ge 82, 3) := by decide +kernel
theorem d_RM_hearData_79 : decode prog_13_method_49_code 79 = .ok (.aload_n 0, 1) := by decide +kernel
theorem d_RM_hearData_80 : decode prog_13_method_49_code 80 = .ok (.getfield 210, 3) := by decide +kernel
theorem d_RM_hearData_83 : decode prog_13_method_49_code 83 = .ok (.ifCond .ne 75, 3) := by decide +kernel
theorem d_RM_hearData_86 : decode prog_13_method_49_code 86 = .ok (.aload_n 0, 1) := by decide +kernel
theorem d_RM_hearData_87 : decode prog_13_method_49_code 87 = .ok (.getfield 257, 3) := by decide +kernel
theorem d_RM_hearData_90 : decode prog_13_method_49_code 90 = .ok (.iconst 2, 1) := by decide +kernel
theorem d_RM_hearData_91 : decode prog_13_method_49_code 91 = .ok (.if_icmp .ne 14, 3) := by decide +kernel
theorem d_RM_hearData_94 : decode prog_13_method_49_code 94 = .ok (.iload_n 1, 1) := by decide +kernel
theorem d_RM_hearData_95 : decode prog_13_method_49_code 95 = .ok (.iload 6, 2) := by decide +kernel
theorem d_RM_hearData_97 : decode prog_13_method_49_code 97 = .ok (.iload_n 2, 1) := by decide +kernel
theorem d_RM_hearData_98 : decode prog_13_method_49_code 98 = .ok (.iload_n 1, 1) := by decide +kernel
theorem d_RM_hearData_99 : decode prog_13_method_49_code 99 = .ok (.isub, 1) := by decide +kernel
theorem d_RM_hearData_100 : decode prog_13_method_49_code 100 = .ok (.irem, 1) := by decide +kernel
theorem d_RM_hearData_101 : decode prog_13_method_49_code 101 = .ok (.iadd, 1) := by decide +kernel
theorem d_RM_hearData_102 : decode prog_13_method_49_code 102 = .ok (.goto 12, 3) := by decide +kernel
theorem d_RM_hearData_105 : decode prog_13_method_49_code 105 = .ok (.iload_n 1, 1) := by decide +kernel
theorem d_RM_hearData_106 : decode prog_13_method_49_code 106 = .ok (.iload 6, 2) := by decide +kernel
theorem d_RM_hearData_108 : decode prog_13_method_49_code 108 = .ok (.aload_n 0, 1) := by decide +kernel
theorem d_RM_hearData_109 : decode prog_13_method_49_code 109 = .ok (.getfield 242, 3) := by decide +kernel
theorem d_RM_hearData_112 : decode prog_13_method_49_code 112 = .ok (.idiv, 1) := by decide +kernel
theorem d_RM_hearData_113 : decode prog_13_method_49_code 113 = .ok (.iadd, 1) := by decide +kernel
theorem d_RM_hearData_114 : decode prog_13_method_49_code 114 = .ok (.istore 7, 2) := by decide +kernel
theorem d_RM_hearData_116 : decode prog_13_method_49_code 116 = .ok (.aload_n 0, 1) := by decide +kernel
theorem d_RM_hearData_117 : decode prog_13_method_49_code 117 = .ok (.getfield 257, 3) := by decide +kernel
theorem d_RM_hearData_120 : decode prog_13_method_49_code 120 = .ok (.iconst 2, 1) := by decide +kernel
theorem d_RM_hearData_121 : decode prog_13_method_49_code 121 = .ok (.if_icmp .ne 12, 3) := by decide +kernel
theorem d_RM_hearData_124 : decode prog_13_method_49_code 124 = .ok (.iload 6, 2) := by decide +kernel
theorem d_RM_hearData_126 : decode prog_13_method_49_code 126 = .ok (.iload_n 2, 1) := by decide +kernel
theorem d_RM_hearData_127 : decode prog_13_method_49_code 127 = .ok (.iload_n 1, 1) := by decide +kernel
theorem d_RM_hearData_128 : decode prog_13_method_49_code 128 = .ok (.isub, 1) := by decide +kernel
theorem d_RM_hearData_129 : decode prog_13_method_49_code 129 = .ok (.idiv, 1) := by decide +kernel
theorem d_RM_hearData_130 : decode prog_13_method_49_code 130 = .ok (.goto 10, 3) := by decide +kernel
theorem d_RM_hearData_133 : decode prog_13_method_49_code 133 = .ok (.iload 6, 2) := by decide +kernel
theorem d_RM_hearData_135 : decode prog_13_method_49_code 135 = .ok (.aload_n 0, 1) := by decide +kernel
theorem d_RM_hearData_136 : decode prog_13_method_49_code 136 = .ok (.getfield 242, 3) := by decide +kernel
theorem d_RM_hearData_139 : decode prog_13_method_49_code 139 = .ok (.irem, 1) := by decide +kernel
theorem d_RM_hearData_140 : decode prog_13_method_49_code 140 = .ok (.istore 8, 2) := by decide +kernel
theorem d_RM_hearData_142 : decode prog_13_method_49_code 142 = .ok (.aload_n 0, 1) := by decide +kernel
theorem d_RM_hearData_143 : decode prog_13_method_49_code 143 = .ok (.iload 7, 2) := by decide +kernel
theorem d_RM_hearData_145 : decode prog_13_method_49_code 145 = .ok (.iload 8, 2) := by decide +kernel
theorem d_RM_hearData_147 : decode prog_13_method_49_code 147 = .ok (.iload 4, 2) := by decide +kernel
theorem d_RM_hearData_149 : decode prog_13_method_49_code 149 = .ok (.invokevirtual 284, 3) := by decide +kernel
theorem d_RM_hearData_152 : decode prog_13_method_49_code 152 = .ok (.iinc 6 1, 3) := by decide +kernel
theorem d_RM_hearData_155 : decode prog_13_method_49_code 155 = .ok (.goto (-83), 3) := by decide +kernel
theorem d_RM_hearData_158 : decode prog_13_method_49_code 158 = .ok (.aload_n 0, 1) := by decide +kernel
theorem d_RM_hearData_159 : decode prog_13_method_49_code 159 = .ok (.getfield 210, 3) := by decide +kernel
theorem d_RM_hearData_162 : decode prog_13_method_49_code 162 = .ok (.ifCond .ne 49, 3) := by decide +kernel
theorem d_RM_hearData_165 : decode prog_13_method_49_code 165 = .ok (.aload_n 0, 1) := by decide +kernel
theorem d_RM_hearData_166 : decode prog_13_method_49_code 166 = .ok (.getfield 251, 3) := by decide +kernel
theorem d_RM_hearData_169 : decode prog_13_method_49_code 169 = .ok (.ifCond .le 42, 3) := by decide +kernel
theorem d_RM_hearData_172 : decode prog_13_method_49_code 172 = .ok (.iload 4, 2) := by decide +kernel
theorem d_RM_hearData_174 : decode prog_13_method_49_code 174 = .ok (.iconst 1, 1) := by decide +kernel
theorem d_RM_hearData_175 : decode prog_13_method_49_code 175 = .ok (.iadd, 1) := by decide +kernel
theorem d_RM_hearData_176 : decode prog_13_method_49_code 176 = .ok (.aload_n 0, 1) := by decide +kernel
theorem d_RM_hearData_177 : decode prog_13_method_49_code 177 = .ok (.getfield 251, 3) := by decide +kernel
theorem d_RM_hearData_180 : decode prog_13_method_49_code 180 = .ok (.irem, 1) := by decide +kernel
theorem d_RM_hearData_181 : decode prog_13_method_49_code 181 = .ok (.ifCond .ne 30, 3) := by decide +kernel
theorem d_RM_hearData_184 : decode prog_13_method_49_code 184 = .ok (.iload 4, 2) := by decide +kernel
theorem d_RM_hearData_186 : decode prog_13_method_49_code 186 = .ok (.iconst 1, 1) := by decide +kernel
theorem d_RM_hearData_187 : decode prog_13_method_49_code 187 = .ok (.iadd, 1) := by decide +kernel
theorem d_RM_hearData_188 : decode prog_13_method_49_code 188 = .ok (.aload_n 0, 1) := by decide +kernel
theorem d_RM_hearData_189 : decode prog_13_method_49_code 189 = .ok (.getfield 239, 3) := by decide +kernel
theorem d_RM_hearData_192 : decode prog_13_method_49_code 192 = .ok (.if_icmp .ge 19, 3) := by decide +kernel
theorem d_RM_hearData_195 : decode prog_13_method_49_code 195 = .ok (.aload_n 0, 1) := by decide +kernel
theorem d_RM_hearData_196 : decode prog_13_method_49_code 196 = .ok (.invokevirtual 287, 3) := by decide +kernel
theorem d_RM_hearData_199 : decode prog_13_method_49_code 199 = .ok (.aload_n 0, 1) := by decide +kernel
theorem d_RM_hearData_200 : decode prog_13_method_49_code 200 = .ok (.iload_n 3, 1) := by decide +kernel
theorem d_RM_hearData_201 : decode prog_13_method_49_code 201 = .ok (.iload 4, 2) := by decide +kernel
theorem d_RM_hearData_203 : decode prog_13_method_49_code 203 = .ok (.iconst 1, 1) := by decide +kernel
theorem d_RM_hearData_204 : decode prog_13_method_49_code 204 = .ok (.iadd, 1) := by decide +kernel
theorem d_RM_hearData_205 : decode prog_13_method_49_code 205 = .ok (.invokevirtual 290, 3) := by decide +kernel
theorem d_RM_hearData_208 : decode prog_13_method_49_code 208 = .ok (.iinc 3 1, 3) := by decide +kernel
theorem d_RM_hearData_211 : decode prog_13_method_49_code 211 = .ok (.iinc 4 1, 3) := by decide +kernel
theorem d_RM_hearData_214 : decode prog_13_method_49_code 214 = .ok (.goto (-171), 3) := by decide +kernel
theorem d_RM_hearData_217 : decode prog_13_method_49_code 217 = .ok (.aload_n 0, 1) := by decide +kernel
theorem d_RM_hearData_218 : decode prog_13_method_49_code 218 = .ok (.getfield 210, 3) := by decide +kernel
theorem d_RM_hearData_221 : decode prog_13_method_49_code 221 = .ok (.ifCond .ne 7, 3) := by decide +kernel
theorem d_RM_hearData_224 : decode prog_13_method_49_code 224 = .ok (.aload_n 0, 1) := by decide +kernel
theorem d_RM_hearData_225 : decode prog_13_method_49_code 225 = .ok (.invokevirtual 287, 3) := by decide +kernel
theorem d_RM_hearData_228 : decode prog_13_method_49_code 228 = .ok (.return_, 1) := by decide +kernel
def L_RM_hearData_72 (r0 : Nat) (b1 : Int32) (b2 : Int32) (b3 : Int32) (b4 : Int32) (b5 : Int32) : Nat → Int32 → Mem →  Option (Int32 × Mem)
  | 0, _, _ => none
  | n + 1, a6, σ =>
  if b5 ≤ a6 then
  some (a6, σ)
  else
  if (σ r0 28) = 0 then
  lt (fun (y58 : Int32) => 
  lt (fun (y78 : Int32) => 
  (f_RM_hearSample r0 y58 y78 b4 σ).bind fun σ82 =>
  L_RM_hearData_72 r0 b1 b2 b3 b4 b5 n (a6 + (1 : Int32)) σ82) fun K79 =>
  if (σ r0 43) = (2 : Int32) then
  if ((b2 - b1) != 0) = true then
  K79 (a6 / (b2 - b1))
  else none
  else
  if ((σ r0 34) != 0) = true then
  K79 (a6 - a6 / (σ r0 34) * (σ r0 34))
  else none) fun K59 =>
  if (σ r0 43) = (2 : Int32) then
  if ((b2 - b1) != 0) = true then
  K59 (b1 + (a6 - a6 / (b2 - b1) * (b2 - b1)))
  else none
  else
  if ((σ r0 34) != 0) = true then
  K59 (b1 + (a6 / (σ r0 34)))
  else none
  else
  some (a6, σ)
def L_RM_hearData_43 (r0 : Nat) (b1 : Int32) (b2 : Int32) : Nat → Int32 → Int32 → Mem →  Option (Int32 × Int32 × Mem)
  | 0, _, _, _ => none
  | n + 1, a3, a4, σ =>
  if (σ r0 35) ≤ a4 then
  some (a3, a4, σ)
  else
  if (σ r0 28) = 0 then
  (L_RM_hearData_72 r0 b1 b2 a3 a4 ((σ r0 34) * (b2 - b1)) 9999 (0 : Int32) σ).bind fun q89 =>
  lt (fun (y95 : Int32) (σ96 : Mem) => 
  L_RM_hearData_43 r0 b1 b2 n y95 (a4 + (1 : Int32)) σ96) fun K97 =>
  if (q89.2 r0 28) = 0 then
  if (q89.2 r0 40) ≤ 0 then
  K97 a3 q89.2
  else
  if ((a4 + (1 : Int32)) - (a4 + (1 : Int32)) / (q89.2 r0 40) * (q89.2 r0 40)) = 0 then
  if (q89.2 r0 35) ≤ (a4 + (1 : Int32)) then
  K97 a3 q89.2
  else
  (f_RM_hearEnd r0 q89.2).bind fun σ104 =>
  (f_RM_hearRestart r0 a3 (a4 + (1 : Int32)) σ104).bind fun σ106 =>
  K97 (a3 + (1 : Int32)) σ106
  else
  K97 a3 q89.2
  else
  K97 a3 q89.2
  else
  some (a3, a4, σ)
def f_RM_hearData (k0 : Nat) (x1 : Int32) (x2 : Int32) (σ : Mem) : Option (Mem) :=
  lt (mput σ k0 54 (σ k0 42)) fun σ1 =>
  lt (mput σ1 k0 55 (f_RM_topOf (σ1 k0 36) σ1)) fun σ2 =>
  lt (mput σ2 k0 62 (0 : Int32)) fun σ3 =>
  lt (mput σ3 k0 64 (0 : Int32)) fun σ4 =>
  (f_RM_begin k0 (0 : Int32) (σ4 k0 39) σ4).bind fun σ6 =>
  (L_RM_hearData_43 k0 x1 x2 9999 (0 : Int32) (0 : Int32) σ6).bind fun q107 =>
  if (q107.2.2 k0 28) = 0 then
  (f_RM_hearEnd k0 q107.2.2).bind fun σ112 =>
  some (σ112)
  else
  some (q107.2.2)
set_option maxHeartbeats 4000000 in
set_option maxRecDepth 100000 in
theorem wL_RM_hearData_72 {F : Fx} (C : Ctx F prog_13_method_49_code 9 "LineFramesModel" none 4 94) {cv : Option (Int32 × Mem) → Option Rs} (h0 : cv none = none) (r0 : Nat) (hr0 : Is r0 11) (b1 : Int32) (b2 : Int32) (b3 : Int32) (b4 : Int32) (b5 : Int32) (hex : ∀ q : Int32 × Mem, J F 9 cv (some q) q.2 158 [(0, .ref (fad F r0)), (1, .int b1), (2, .int b2), (3, .int b3), (4, .int b4), (5, .int b5), (6, .int q.1)] []) : ∀ (n : Nat) (a6 : Int32) (σ : Mem), J F 9 cv (L_RM_hearData_72 r0 b1 b2 b3 b4 b5 n a6 σ) σ 72 [(0, .ref (fad F r0)), (1, .int b1), (2, .int b2), (3, .int b3), (4, .int b4), (5, .int b5), (6, .int a6)] [] := by
  intro n
  induction n with
  | zero => intro a6 σ hE; rw [L_RM_hearData_72, h0] at hE; cases hE
  | succ n ih =>
    intro a6 σ
    rw [L_RM_hearData_72]
    refine j_iload C d_RM_hearData_72 6 rfl ?_
    refine j_iload C d_RM_hearData_74 5 rfl ?_
    refine j_icmp_ge (tgt := 158) C d_RM_hearData_76 (by decide) (fun c9 => ?_) (fun c9 => ?_)
    · exact hex (a6, σ)
    · refine j_aload_n C d_RM_hearData_79 0 rfl ?_
      refine j_getI C hr0 fl_RM_210 rfl d_RM_hearData_80 ?_
      refine j_if_ne (tgt := 158) C d_RM_hearData_83 (by decide) (fun c10 => ?_) (fun c10 => ?_)
      · exact hex (a6, σ)
      · refine j_aload_n C d_RM_hearData_86 0 rfl ?_
        refine j_getI C hr0 fl_RM_257 rfl d_RM_hearData_87 ?_
        refine j_iconst (v := (2 : Int32)) C d_RM_hearData_90 (by decide) ?_
        refine j_join1 114 (fun _ => [(0, .ref (fad F r0)), (1, .int b1), (2, .int b2), (3, .int b3), (4, .int b4), (5, .int b5), (6, .int a6)]) (fun y58 => [.int y58]) (fun y58 => ?_) (fun K59 H60 => ?_)
        · refine j_istore (lv9 := [(0, .ref (fad F r0)), (1, .int b1), (2, .int b2), (3, .int b3), (4, .int b4), (5, .int b5), (6, .int a6), (7, .int y58)]) C d_RM_hearData_114 rfl rfl (by decide) ?_
          refine j_aload_n C d_RM_hearData_116 0 rfl ?_
          refine j_getI C hr0 fl_RM_257 rfl d_RM_hearData_117 ?_
          refine j_iconst (v := (2 : Int32)) C d_RM_hearData_120 (by decide) ?_
          refine j_join1 140 (fun _ => [(0, .ref (fad F r0)), (1, .int b1), (2, .int b2), (3, .int b3), (4, .int b4), (5, .int b5), (6, .int a6), (7, .int y58)]) (fun y78 => [.int y78]) (fun y78 => ?_) (fun K79 H80 => ?_)
          · refine j_istore (lv9 := [(0, .ref (fad F r0)), (1, .int b1), (2, .int b2), (3, .int b3), (4, .int b4), (5, .int b5), (6, .int a6), (7, .int y58), (8, .int y78)]) C d_RM_hearData_140 rfl rfl (by decide) ?_
            refine j_aload_n C d_RM_hearData_142 0 rfl ?_
            refine j_iload C d_RM_hearData_143 7 rfl ?_
            refine j_iload C d_RM_hearData_145 8 rfl ?_
            refine j_iload C d_RM_hearData_147 4 rfl ?_
            refine j_bind (by exact h0) (fun σ82 e81 => ?_)
            refine j_callVv C mv_RM_284 [.int y58, .int y78, .int b4] [] hr0 (c_RM_hearSample hr0 y58 y78 b4 σ e81) rfl rfl (by decide) (Nat.le_of_ble_eq_true rfl) d_RM_hearData_149 ?_
            refine j_iinc (v := (a6 + (1 : Int32))) (lv9 := [(0, .ref (fad F r0)), (1, .int b1), (2, .int b2), (3, .int b3), (4, .int b4), (5, .int b5), (6, .int (a6 + (1 : Int32))), (7, .int y58), (8, .int y78)]) C d_RM_hearData_152 6 rfl rfl rfl rfl (by decide) ?_
            refine j_goto (tgt := 72) C d_RM_hearData_155 (by decide) ?_
            refine j_sub (lv9 := [(0, .ref (fad F r0)), (1, .int b1), (2, .int b2), (3, .int b3), (4, .int b4), (5, .int b5), (6, .int (a6 + (1 : Int32)))]) [0, 1, 2, 3, 4, 5, 6] rfl ?_
            exact ih (a6 + (1 : Int32)) σ82
          · refine j_icmp_ne (tgt := 133) C d_RM_hearData_121 (by decide) (fun c83 => ?_) (fun c83 => ?_)
            · refine j_iload C d_RM_hearData_133 6 rfl ?_
              refine j_aload_n C d_RM_hearData_135 0 rfl ?_
              refine j_getI C hr0 fl_RM_242 rfl d_RM_hearData_136 ?_
              refine j_need (by exact h0) (fun g84 => ?_)
              refine j_irem C d_RM_hearData_139 (ne_bne g84) ?_
              exact H80 (a6 - a6 / (σ r0 34) * (σ r0 34))
            · refine j_iload C d_RM_hearData_124 6 rfl ?_
              refine j_iload_n C d_RM_hearData_126 2 rfl ?_
              refine j_iload_n C d_RM_hearData_127 1 rfl ?_
              refine j_isub C d_RM_hearData_128 ?_
              refine j_need (by exact h0) (fun g85 => ?_)
              refine j_idiv C d_RM_hearData_129 (ne_bne g85) ?_
              refine j_goto (tgt := 140) C d_RM_hearData_130 (by decide) ?_
              exact H80 (a6 / (b2 - b1))
        · refine j_icmp_ne (tgt := 105) C d_RM_hearData_91 (by decide) (fun c86 => ?_) (fun c86 => ?_)
          · refine j_iload_n C d_RM_hearData_105 1 rfl ?_
            refine j_iload C d_RM_hearData_106 6 rfl ?_
            refine j_aload_n C d_RM_hearData_108 0 rfl ?_
            refine j_getI C hr0 fl_RM_242 rfl d_RM_hearData_109 ?_
            refine j_need (by exact h0) (fun g87 => ?_)
            refine j_idiv C d_RM_hearData_112 (ne_bne g87) ?_
            refine j_iadd C d_RM_hearData_113 ?_
            exact H60 (b1 + (a6 / (σ r0 34)))
          · refine j_iload_n C d_RM_hearData_94 1 rfl ?_
            refine j_iload C d_RM_hearData_95 6 rfl ?_
            refine j_iload_n C d_RM_hearData_97 2 rfl ?_
            refine j_iload_n C d_RM_hearData_98 1 rfl ?_
            refine j_isub C d_RM_hearData_99 ?_
            refine j_need (by exact h0) (fun g88 => ?_)
            refine j_irem C d_RM_hearData_100 (ne_bne g88) ?_
            refine j_iadd C d_RM_hearData_101 ?_
            refine j_goto (tgt := 114) C d_RM_hearData_102 (by decide) ?_
            exact H60 (b1 + (a6 - a6 / (b2 - b1) * (b2 - b1)))
set_option maxHeartbeats 4000000 in
set_option maxRecDepth 100000 in
theorem wL_RM_hearData_43 {F : Fx} (C : Ctx F prog_13_method_49_code 9 "LineFramesModel" none 4 94) {cv : Option (Int32 × Int32 × Mem) → Option Rs} (h0 : cv none = none) (r0 : Nat) (hr0 : Is r0 11) (b1 : Int32) (b2 : Int32) (hex : ∀ q : Int32 × Int32 × Mem, J F 9 cv (some q) q.2.2 217 [(0, .ref (fad F r0)), (1, .int b1), (2, .int b2), (3, .int q.1), (4, .int q.2.1)] []) : ∀ (n : Nat) (a3 : Int32) (a4 : Int32) (σ : Mem), J F 9 cv (L_RM_hearData_43 r0 b1 b2 n a3 a4 σ) σ 43 [(0, .ref (fad F r0)), (1, .int b1), (2, .int b2), (3, .int a3), (4, .int a4)] [] := by
  intro n
  induction n with
  | zero => intro a3 a4 σ hE; rw [L_RM_hearData_43, h0] at hE; cases hE
  | succ n ih =>
    intro a3 a4 σ
    rw [L_RM_hearData_43]
    refine j_iload C d_RM_hearData_43 4 rfl ?_
    refine j_aload_n C d_RM_hearData_45 0 rfl ?_
    refine j_getI C hr0 fl_RM_239 rfl d_RM_hearData_46 ?_
    refine j_icmp_ge (tgt := 217) C d_RM_hearData_49 (by decide) (fun c7 => ?_) (fun c7 => ?_)
    · exact hex (a3, a4, σ)
    · refine j_aload_n C d_RM_hearData_52 0 rfl ?_
      refine j_getI C hr0 fl_RM_210 rfl d_RM_hearData_53 ?_
      refine j_if_ne (tgt := 217) C d_RM_hearData_56 (by decide) (fun c8 => ?_) (fun c8 => ?_)
      · exact hex (a3, a4, σ)
      · refine j_aload_n C d_RM_hearData_59 0 rfl ?_
        refine j_getI C hr0 fl_RM_242 rfl d_RM_hearData_60 ?_
        refine j_iload_n C d_RM_hearData_63 2 rfl ?_
        refine j_iload_n C d_RM_hearData_64 1 rfl ?_
        refine j_isub C d_RM_hearData_65 ?_
        refine j_imul C d_RM_hearData_66 ?_
        refine j_istore (lv9 := [(0, .ref (fad F r0)), (1, .int b1), (2, .int b2), (3, .int a3), (4, .int a4), (5, .int ((σ r0 34) * (b2 - b1)))]) C d_RM_hearData_67 rfl rfl (by decide) ?_
        refine j_iconst (v := (0 : Int32)) C d_RM_hearData_69 (by decide) ?_
        refine j_istore (lv9 := [(0, .ref (fad F r0)), (1, .int b1), (2, .int b2), (3, .int a3), (4, .int a4), (5, .int ((σ r0 34) * (b2 - b1))), (6, .int (0 : Int32))]) C d_RM_hearData_70 rfl rfl (by decide) ?_
        refine j_loop (wL_RM_hearData_72 C (by exact h0) r0 hr0 b1 b2 a3 a4 ((σ r0 34) * (b2 - b1)) (fun q89 => j_some ?_) 9999 (0 : Int32) σ)
        refine j_aload_n C d_RM_hearData_158 0 rfl ?_
        refine j_getI C hr0 fl_RM_210 rfl d_RM_hearData_159 ?_
        refine j_join1m 211 (fun y95 _ => [(0, .ref (fad F r0)), (1, .int b1), (2, .int b2), (3, .int y95), (4, .int a4), (5, .int ((σ r0 34) * (b2 - b1))), (6, .int q89.1)]) (fun _ _ => []) (fun y95 σ96 => ?_) (fun K97 H98 => ?_)
        · refine j_iinc (v := (a4 + (1 : Int32))) (lv9 := [(0, .ref (fad F r0)), (1, .int b1), (2, .int b2), (3, .int y95), (4, .int (a4 + (1 : Int32))), (5, .int ((σ r0 34) * (b2 - b1))), (6, .int q89.1)]) C d_RM_hearData_211 4 rfl rfl rfl rfl (by decide) ?_
          refine j_goto (tgt := 43) C d_RM_hearData_214 (by decide) ?_
          refine j_sub (lv9 := [(0, .ref (fad F r0)), (1, .int b1), (2, .int b2), (3, .int y95), (4, .int (a4 + (1 : Int32)))]) [0, 1, 2, 3, 4] rfl ?_
          exact ih y95 (a4 + (1 : Int32)) σ96
        · refine j_if_ne (tgt := 211) C d_RM_hearData_162 (by decide) (fun c99 => ?_) (fun c99 => ?_)
          · exact H98 a3 q89.2
          · refine j_aload_n C d_RM_hearData_165 0 rfl ?_
            refine j_getI C hr0 fl_RM_251 rfl d_RM_hearData_166 ?_
            refine j_if_le (tgt := 211) C d_RM_hearData_169 (by decide) (fun c100 => ?_) (fun c100 => ?_)
            · exact H98 a3 q89.2
            · refine j_iload C d_RM_hearData_172 4 rfl ?_
              refine j_iconst (v := (1 : Int32)) C d_RM_hearData_174 (by decide) ?_
              refine j_iadd C d_RM_hearData_175 ?_
              refine j_aload_n C d_RM_hearData_176 0 rfl ?_
              refine j_getI C hr0 fl_RM_251 rfl d_RM_hearData_177 ?_
              refine j_irem C d_RM_hearData_180 (ne_pos c100) ?_
              refine j_if_ne (tgt := 211) C d_RM_hearData_181 (by decide) (fun c101 => ?_) (fun c101 => ?_)
              · exact H98 a3 q89.2
              · refine j_iload C d_RM_hearData_184 4 rfl ?_
                refine j_iconst (v := (1 : Int32)) C d_RM_hearData_186 (by decide) ?_
                refine j_iadd C d_RM_hearData_187 ?_
                refine j_aload_n C d_RM_hearData_188 0 rfl ?_
                refine j_getI C hr0 fl_RM_239 rfl d_RM_hearData_189 ?_
                refine j_icmp_ge (tgt := 211) C d_RM_hearData_192 (by decide) (fun c102 => ?_) (fun c102 => ?_)
                · exact H98 a3 q89.2
                · refine j_aload_n C d_RM_hearData_195 0 rfl ?_
                  refine j_bind (by exact h0) (fun σ104 e103 => ?_)
                  refine j_callVv C mv_RM_287 [] [] hr0 (c_RM_hearEnd hr0 q89.2 e103) rfl rfl (by decide) (Nat.le_of_ble_eq_true rfl) d_RM_hearData_196 ?_
                  refine j_aload_n C d_RM_hearData_199 0 rfl ?_
                  refine j_iload_n C d_RM_hearData_200 3 rfl ?_
                  refine j_iload C d_RM_hearData_201 4 rfl ?_
                  refine j_iconst (v := (1 : Int32)) C d_RM_hearData_203 (by decide) ?_
                  refine j_iadd C d_RM_hearData_204 ?_
                  refine j_bind (by exact h0) (fun σ106 e105 => ?_)
                  refine j_callVv C mv_RM_290 [.int a3, .int (a4 + (1 : Int32))] [] hr0 (c_RM_hearRestart hr0 a3 (a4 + (1 : Int32)) σ104 e105) rfl rfl (by decide) (Nat.le_of_ble_eq_true rfl) d_RM_hearData_205 ?_
                  refine j_iinc (v := (a3 + (1 : Int32))) (lv9 := [(0, .ref (fad F r0)), (1, .int b1), (2, .int b2), (3, .int (a3 + (1 : Int32))), (4, .int a4), (5, .int ((σ r0 34) * (b2 - b1))), (6, .int q89.1)]) C d_RM_hearData_208 3 rfl rfl rfl rfl (by decide) ?_
                  exact H98 (a3 + (1 : Int32)) σ106
set_option maxHeartbeats 4000000 in
set_option maxRecDepth 100000 in
theorem w_RM_hearData {F : Fx} (C : Ctx F prog_13_method_49_code 9 "LineFramesModel" none 4 94) {k0 : Nat} (h0k : Is k0 11) (x1 : Int32) (x2 : Int32) (σ : Mem) : J F 9 (cvO cvM) (f_RM_hearData k0 x1 x2 σ) σ 0 [(0, .ref (fad F k0)), (1, .int x1), (2, .int x2)] [] := by
  unfold f_RM_hearData
  refine j_aload_n C d_RM_hearData_0 0 rfl ?_
  refine j_aload_n C d_RM_hearData_1 0 rfl ?_
  refine j_getI C h0k fl_RM_254 rfl d_RM_hearData_2 ?_
  refine j_put C h0k fl_RM_133 fw_11_54 rfl rfl rfl d_RM_hearData_5 (fun σ1 => ?_)
  refine j_aload_n C d_RM_hearData_8 0 rfl ?_
  refine j_aload_n C d_RM_hearData_9 0 rfl ?_
  refine j_getI C h0k fl_RM_236 rfl d_RM_hearData_10 ?_
  refine j_callSi C ms_RM_129 [.int (σ1 k0 36)] [.ref (fad F k0)] (c_RM_topOf (σ1 k0 36) σ1) rfl rfl (by decide) (Nat.le_of_ble_eq_true rfl) d_RM_hearData_13 ?_
  refine j_put C h0k fl_RM_136 fw_11_55 rfl rfl rfl d_RM_hearData_16 (fun σ2 => ?_)
  refine j_aload_n C d_RM_hearData_19 0 rfl ?_
  refine j_iconst (v := (0 : Int32)) C d_RM_hearData_20 (by decide) ?_
  refine j_put C h0k fl_RM_260 fw_11_62 rfl rfl rfl d_RM_hearData_21 (fun σ3 => ?_)
  refine j_aload_n C d_RM_hearData_24 0 rfl ?_
  refine j_iconst (v := (0 : Int32)) C d_RM_hearData_25 (by decide) ?_
  refine j_put C h0k fl_RM_266 fw_11_64 rfl (nz01 (Or.inl rfl)) rfl d_RM_hearData_26 (fun σ4 => ?_)
  refine j_aload_n C d_RM_hearData_29 0 rfl ?_
  refine j_iconst (v := (0 : Int32)) C d_RM_hearData_30 (by decide) ?_
  refine j_aload_n C d_RM_hearData_31 0 rfl ?_
  refine j_getI C h0k fl_RM_248 rfl d_RM_hearData_32 ?_
  refine j_bind rfl (fun σ6 e5 => ?_)
  refine j_callVv C mv_RM_189 [.int (0 : Int32), .int (σ4 k0 39)] [] h0k (c_RM_begin h0k (0 : Int32) (σ4 k0 39) σ4 e5) rfl rfl (by decide) (Nat.le_of_ble_eq_true rfl) d_RM_hearData_35 ?_
  refine j_iconst (v := (0 : Int32)) C d_RM_hearData_38 (by decide) ?_
  refine j_istore_n (lv9 := [(0, .ref (fad F k0)), (1, .int x1), (2, .int x2), (3, .int (0 : Int32))]) C d_RM_hearData_39 rfl rfl (by decide) ?_
  refine j_iconst (v := (0 : Int32)) C d_RM_hearData_40 (by decide) ?_
  refine j_istore (lv9 := [(0, .ref (fad F k0)), (1, .int x1), (2, .int x2), (3, .int (0 : Int32)), (4, .int (0 : Int32))]) C d_RM_hearData_41 rfl rfl (by decide) ?_
  refine j_loop (wL_RM_hearData_43 C rfl k0 h0k x1 x2 (fun q107 => j_some ?_) 9999 (0 : Int32) (0 : Int32) σ6)
  refine j_aload_n C d_RM_hearData_217 0 rfl ?_
  refine j_getI C h0k fl_RM_210 rfl d_RM_hearData_218 ?_
  refine j_if_ne (tgt := 228) C d_RM_hearData_221 (by decide) (fun c110 => ?_) (fun c110 => ?_)
  · exact j_vret C (fun ρ h => leaf_eq h) d_RM_hearData_228
  · refine j_aload_n C d_RM_hearData_224 0 rfl ?_
    refine j_bind rfl (fun σ112 e111 => ?_)
    refine j_callVv C mv_RM_287 [] [] h0k (c_RM_hearEnd h0k q107.2.2 e111) rfl rfl (by decide) (Nat.le_of_ble_eq_true rfl) d_RM_hearData_225 ?_
    exact j_vret C (fun ρ h => leaf_eq h) d_RM_hearData_228
theorem c_RM_hearData {l : Launch} {D : va_G} {G : GC} {ad : Nat → Nat} {k0 : Nat} (h0k : Is k0 11) (x1 : Int32) (x2 : Int32) (σ : Mem) {q : Mem} (hq : f_RM_hearData k0 x1 x2 σ = some q) : Ctr l D G ad ⟨"LineFramesModel", "hearData", "(II)V"⟩ prog_13_method_49_code 9 none 4 94 [.ref (ad k0), .int x1, .int x2] σ (.inl none, q) := ctr_J (cv := (cvO cvM)) (E := f_RM_hearData k0 x1 x2 σ) (by decide +kernel) (Nat.le_of_ble_eq_true rfl) (by rw [hq]; rfl) (fun F h C => by subst h; exact w_RM_hearData C h0k x1 x2 σ)
