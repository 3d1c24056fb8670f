/-! LineFramesModel takeScan ()V -/
theorem d_RM_takeScan_0 : decode prog_13_method_50_code 0 = .ok (.aload_n 0, 1) := by decide +kernel
theorem d_RM_takeScan_1 : decode prog_13_method_50_code 1 = .ok (.getfield 32, 3) := by decide +kernel
theorem d_RM_takeScan_4 : decode prog_13_method_50_code 4 = .ok (.aload_n 0, 1) := by decide +kernel
theorem d_RM_takeScan_5 : decode prog_13_method_50_code 5 = .ok (.getfield 216, 3) := by decide +kernel
theorem d_RM_takeScan_8 : decode prog_13_method_50_code 8 = .ok (.iconst 4, 1) := by decide +kernel
theorem d_RM_takeScan_9 : decode prog_13_method_50_code 9 = .ok (.iadd, 1) := by decide +kernel
theorem d_RM_takeScan_10 : decode prog_13_method_50_code 10 = .ok (.iaload, 1) := by decide +kernel
theorem d_RM_takeScan_11 : decode prog_13_method_50_code 11 = .ok (.istore_n 1, 1) := by decide +kernel
theorem d_RM_takeScan_12 : decode prog_13_method_50_code 12 = .ok (.iload_n 1, 1) := by decide +kernel
theorem d_RM_takeScan_13 : decode prog_13_method_50_code 13 = .ok (.iconst 1, 1) := by decide +kernel
theorem d_RM_takeScan_14 : decode prog_13_method_50_code 14 = .ok (.if_icmp .ne 19, 3) := by decide +kernel
theorem d_RM_takeScan_17 : decode prog_13_method_50_code 17 = .ok (.aload_n 0, 1) := by decide +kernel
theorem d_RM_takeScan_18 : decode prog_13_method_50_code 18 = .ok (.getfield 32, 3) := by decide +kernel
theorem d_RM_takeScan_21 : decode prog_13_method_50_code 21 = .ok (.aload_n 0, 1) := by decide +kernel
theorem d_RM_takeScan_22 : decode prog_13_method_50_code 22 = .ok (.getfield 216, 3) := by decide +kernel
theorem d_RM_takeScan_25 : decode prog_13_method_50_code 25 = .ok (.iconst 5, 1) := by decide +kernel
theorem d_RM_takeScan_26 : decode prog_13_method_50_code 26 = .ok (.iadd, 1) := by decide +kernel
theorem d_RM_takeScan_27 : decode prog_13_method_50_code 27 = .ok (.iaload, 1) := by decide +kernel
theorem d_RM_takeScan_28 : decode prog_13_method_50_code 28 = .ok (.iconst 1, 1) := by decide +kernel
theorem d_RM_takeScan_29 : decode prog_13_method_50_code 29 = .ok (.isub, 1) := by decide +kernel
theorem d_RM_takeScan_30 : decode prog_13_method_50_code 30 = .ok (.goto 4, 3) := by decide +kernel
theorem d_RM_takeScan_33 : decode prog_13_method_50_code 33 = .ok (.iconst 0, 1) := by decide +kernel
theorem d_RM_takeScan_34 : decode prog_13_method_50_code 34 = .ok (.istore_n 2, 1) := by decide +kernel
theorem d_RM_takeScan_35 : decode prog_13_method_50_code 35 = .ok (.aload_n 0, 1) := by decide +kernel
theorem d_RM_takeScan_36 : decode prog_13_method_50_code 36 = .ok (.aload_n 0, 1) := by decide +kernel
theorem d_RM_takeScan_37 : decode prog_13_method_50_code 37 = .ok (.getfield 216, 3) := by decide +kernel
theorem d_RM_takeScan_40 : decode prog_13_method_50_code 40 = .ok (.iconst 2, 1) := by decide +kernel
theorem d_RM_takeScan_41 : decode prog_13_method_50_code 41 = .ok (.iadd, 1) := by decide +kernel
theorem d_RM_takeScan_42 : decode prog_13_method_50_code 42 = .ok (.aload_n 0, 1) := by decide +kernel
theorem d_RM_takeScan_43 : decode prog_13_method_50_code 43 = .ok (.aload_n 0, 1) := by decide +kernel
theorem d_RM_takeScan_44 : decode prog_13_method_50_code 44 = .ok (.getfield 216, 3) := by decide +kernel
theorem d_RM_takeScan_47 : decode prog_13_method_50_code 47 = .ok (.iconst 2, 1) := by decide +kernel
theorem d_RM_takeScan_48 : decode prog_13_method_50_code 48 = .ok (.iadd, 1) := by decide +kernel
theorem d_RM_takeScan_49 : decode prog_13_method_50_code 49 = .ok (.invokevirtual 230, 3) := by decide +kernel
theorem d_RM_takeScan_52 : decode prog_13_method_50_code 52 = .ok (.iadd, 1) := by decide +kernel
theorem d_RM_takeScan_53 : decode prog_13_method_50_code 53 = .ok (.putfield 263, 3) := by decide +kernel
theorem d_RM_takeScan_56 : decode prog_13_method_50_code 56 = .ok (.aload_n 0, 1) := by decide +kernel
theorem d_RM_takeScan_57 : decode prog_13_method_50_code 57 = .ok (.iload_n 2, 1) := by decide +kernel
theorem d_RM_takeScan_58 : decode prog_13_method_50_code 58 = .ok (.iload_n 2, 1) := by decide +kernel
theorem d_RM_takeScan_59 : decode prog_13_method_50_code 59 = .ok (.iload_n 1, 1) := by decide +kernel
theorem d_RM_takeScan_60 : decode prog_13_method_50_code 60 = .ok (.iadd, 1) := by decide +kernel
theorem d_RM_takeScan_61 : decode prog_13_method_50_code 61 = .ok (.invokevirtual 293, 3) := by decide +kernel
theorem d_RM_takeScan_64 : decode prog_13_method_50_code 64 = .ok (.aload_n 0, 1) := by decide +kernel
theorem d_RM_takeScan_65 : decode prog_13_method_50_code 65 = .ok (.getfield 210, 3) := by decide +kernel
theorem d_RM_takeScan_68 : decode prog_13_method_50_code 68 = .ok (.ifCond .le 4, 3) := by decide +kernel
theorem d_RM_takeScan_71 : decode prog_13_method_50_code 71 = .ok (.return_, 1) := by decide +kernel
theorem d_RM_takeScan_72 : decode prog_13_method_50_code 72 = .ok (.iload_n 2, 1) := by decide +kernel
theorem d_RM_takeScan_73 : decode prog_13_method_50_code 73 = .ok (.istore_n 3, 1) := by decide +kernel
theorem d_RM_takeScan_74 : decode prog_13_method_50_code 74 = .ok (.iload_n 3, 1) := by decide +kernel
theorem d_RM_takeScan_75 : decode prog_13_method_50_code 75 = .ok (.iload_n 2, 1) := by decide +kernel
theorem d_RM_takeScan_76 : decode prog_13_method_50_code 76 = .ok (.iload_n 1, 1) := by decide +kernel
theorem d_RM_takeScan_77 : decode prog_13_method_50_code 77 = .ok (.iadd, 1) := by decide +kernel
theorem d_RM_takeScan_78 : decode prog_13_method_50_code 78 = .ok (.if_icmp .ge 59, 3) := by decide +kernel
theorem d_RM_takeScan_81 : decode prog_13_method_50_code 81 = .ok (.aload_n 0, 1) := by decide +kernel
theorem d_RM_takeScan_82 : decode prog_13_method_50_code 82 = .ok (.getfield 74, 3) := by decide +kernel
theorem d_RM_takeScan_85 : decode prog_13_method_50_code 85 = .ok (.iload_n 3, 1) := by decide +kernel
theorem d_RM_takeScan_86 : decode prog_13_method_50_code 86 = .ok (.iconst 1, 1) := by decide +kernel
theorem d_RM_takeScan_87 : decode prog_13_method_50_code 87 = .ok (.bastore, 1) := by decide +kernel
theorem d_RM_takeScan_88 : decode prog_13_method_50_code 88 = .ok (.iconst 0, 1) := by decide +kernel
theorem d_RM_takeScan_89 : decode prog_13_method_50_code 89 = .ok (.istore 4, 2) := by decide +kernel
theorem d_RM_takeScan_91 : decode prog_13_method_50_code 91 = .ok (.iload 4, 2) := by decide +kernel
theorem d_RM_takeScan_93 : decode prog_13_method_50_code 93 = .ok (.sipush 144, 3) := by decide +kernel
theorem d_RM_takeScan_96 : decode prog_13_method_50_code 96 = .ok (.if_icmp .ge 35, 3) := by decide +kernel
theorem d_RM_takeScan_99 : decode prog_13_method_50_code 99 = .ok (.aload_n 0, 1) := by decide +kernel
theorem d_RM_takeScan_100 : decode prog_13_method_50_code 100 = .ok (.getfield 56, 3) := by decide +kernel
theorem d_RM_takeScan_103 : decode prog_13_method_50_code 103 = .ok (.sipush 144, 3) := by decide +kernel
theorem d_RM_takeScan_106 : decode prog_13_method_50_code 106 = .ok (.iload_n 3, 1) := by decide +kernel
theorem d_RM_takeScan_107 : decode prog_13_method_50_code 107 = .ok (.imul, 1) := by decide +kernel
theorem d_RM_takeScan_108 : decode prog_13_method_50_code 108 = .ok (.iload 4, 2) := by decide +kernel
theorem d_RM_takeScan_110 : decode prog_13_method_50_code 110 = .ok (.iadd, 1) := by decide +kernel
theorem d_RM_takeScan_111 : decode prog_13_method_50_code 111 = .ok (.aload_n 0, 1) := by decide +kernel
theorem d_RM_takeScan_112 : decode prog_13_method_50_code 112 = .ok (.getfield 77, 3) := by decide +kernel
theorem d_RM_takeScan_115 : decode prog_13_method_50_code 115 = .ok (.sipush 144, 3) := by decide +kernel
theorem d_RM_takeScan_118 : decode prog_13_method_50_code 118 = .ok (.iload_n 3, 1) := by decide +kernel
theorem d_RM_takeScan_119 : decode prog_13_method_50_code 119 = .ok (.imul, 1) := by decide +kernel
theorem d_RM_takeScan_120 : decode prog_13_method_50_code 120 = .ok (.iload 4, 2) := by decide +kernel
theorem d_RM_takeScan_122 : decode prog_13_method_50_code 122 = .ok (.iadd, 1) := by decide +kernel
theorem d_RM_takeScan_123 : decode prog_13_method_50_code 123 = .ok (.iaload, 1) := by decide +kernel
theorem d_RM_takeScan_124 : decode prog_13_method_50_code 124 = .ok (.iastore, 1) := by decide +kernel
theorem d_RM_takeScan_125 : decode prog_13_method_50_code 125 = .ok (.iinc 4 1, 3) := by decide +kernel
theorem d_RM_takeScan_128 : decode prog_13_method_50_code 128 = .ok (.goto (-37), 3) := by decide +kernel
theorem d_RM_takeScan_131 : decode prog_13_method_50_code 131 = .ok (.iinc 3 1, 3) := by decide +kernel
theorem d_RM_takeScan_134 : decode prog_13_method_50_code 134 = .ok (.goto (-60), 3) := by decide +kernel
theorem d_RM_takeScan_137 : decode prog_13_method_50_code 137 = .ok (.aload_n 0, 1) := by decide +kernel
theorem d_RM_takeScan_138 : decode prog_13_method_50_code 138 = .ok (.dup, 1) := by decide +kernel
theorem d_RM_takeScan_139 : decode prog_13_method_50_code 139 = .ok (.getfield 296, 3) := by decide +kernel
theorem d_RM_takeScan_142 : decode prog_13_method_50_code 142 = .ok (.iconst 1, 1) := by decide +kernel
theorem d_RM_takeScan_143 : decode prog_13_method_50_code 143 = .ok (.iadd, 1) := by decide +kernel
theorem d_RM_takeScan_144 : decode prog_13_method_50_code 144 = .ok (.putfield 296, 3) := by decide +kernel
theorem d_RM_takeScan_147 : decode prog_13_method_50_code 147 = .ok (.aload_n 0, 1) := by decide +kernel
theorem d_RM_takeScan_148 : decode prog_13_method_50_code 148 = .ok (.aload_n 0, 1) := by decide +kernel
theorem d_RM_takeScan_149 : decode prog_13_method_50_code 149 = .ok (.getfield 263, 3) := by decide +kernel
theorem d_RM_takeScan_152 : decode prog_13_method_50_code 152 = .ok (.putfield 216, 3) := by decide +kernel
theorem d_RM_takeScan_155 : decode prog_13_method_50_code 155 = .ok (.return_, 1) := by decide +kernel
def L_RM_takeScan_91 (r0 : Nat) (b1 : Int32) (b2 : Int32) (b3 : Int32) : Nat → Int32 → Mem →  Option (Int32 × Mem)
  | 0, _, _ => none
  | n + 1, a4, σ =>
  if (144 : Int32) ≤ a4 then
  some (a4, σ)
  else
  if inb (((144 : Int32) * b3) + a4) (wln (wtg r0 51)) = true then
  if inb (((144 : Int32) * b3) + a4) (wln (wtg r0 44)) = true then
  lt (mput σ (wtg r0 44) (((144 : Int32) * b3) + a4).toNatClampNeg (σ (wtg r0 51) (((144 : Int32) * b3) + a4).toNatClampNeg)) fun σ163 =>
  L_RM_takeScan_91 r0 b1 b2 b3 n (a4 + (1 : Int32)) σ163
  else none
  else none
def L_RM_takeScan_74 (r0 : Nat) (b1 : Int32) (b2 : Int32) : Nat → Int32 → Mem →  Option (Int32 × Mem)
  | 0, _, _ => none
  | n + 1, a3, σ =>
  if (b2 + b1) ≤ a3 then
  some (a3, σ)
  else
  if inb a3 (wln (wtg r0 50)) = true then
  lt (mput σ (wtg r0 50) a3.toNatClampNeg (nz (1 : Int32))) fun σ159 =>
  (L_RM_takeScan_91 r0 b1 b2 a3 9999 (0 : Int32) σ159).bind fun q164 =>
  L_RM_takeScan_74 r0 b1 b2 n (a3 + (1 : Int32)) q164.2
  else none
def f_RM_takeScan (k0 : Nat) (σ : Mem) : Option (Mem) :=
  if inb ((σ k0 32) + (4 : Int32)) (wln (wtg k0 18)) = true then
  lt (σ (wtg k0 18) ((σ k0 32) + (4 : Int32)).toNatClampNeg) fun v2 =>
  lt (fun (y148 : Int32) => 
  (f_RM_wide k0 ((σ k0 32) + (2 : Int32)) σ).bind fun r152 =>
  lt (mput σ k0 60 (((σ k0 32) + (2 : Int32)) + r152)) fun σ153 =>
  (f_RM_hearData k0 y148 (y148 + v2) σ153).bind fun σ155 =>
  if (σ155 k0 28) ≤ 0 then
  (L_RM_takeScan_74 k0 v2 y148 9999 y148 σ155).bind fun q165 =>
  lt (mput q165.2 k0 31 ((q165.2 k0 31) + (1 : Int32))) fun σ166 =>
  lt (mput σ166 k0 32 (σ166 k0 60)) fun σ167 =>
  some (σ167)
  else
  some (σ155)) fun K149 =>
  if v2 = (1 : Int32) then
  if inb ((σ k0 32) + (5 : Int32)) (wln (wtg k0 18)) = true then
  K149 ((σ (wtg k0 18) ((σ k0 32) + (5 : Int32)).toNatClampNeg) - (1 : Int32))
  else none
  else
  K149 (0 : Int32)
  else none
set_option maxHeartbeats 4000000 in
set_option maxRecDepth 100000 in
theorem wL_RM_takeScan_91 {F : Fx} (C : Ctx F prog_13_method_50_code 5 "LineFramesModel" none 5 122) {cv : Option (Int32 × Mem) → Option Rs} (h0 : cv none = none) (r0 : Nat) (hr0 : Is r0 11) (b1 : Int32) (b2 : Int32) (b3 : Int32) (hex : ∀ q : Int32 × Mem, J F 5 cv (some q) q.2 131 [(0, .ref (fad F r0)), (1, .int b1), (2, .int b2), (3, .int b3), (4, .int q.1)] []) : ∀ (n : Nat) (a4 : Int32) (σ : Mem), J F 5 cv (L_RM_takeScan_91 r0 b1 b2 b3 n a4 σ) σ 91 [(0, .ref (fad F r0)), (1, .int b1), (2, .int b2), (3, .int b3), (4, .int a4)] [] := by
  intro n
  induction n with
  | zero => intro a4 σ hE; rw [L_RM_takeScan_91, h0] at hE; cases hE
  | succ n ih =>
    intro a4 σ
    rw [L_RM_takeScan_91]
    refine j_iload C d_RM_takeScan_91 4 rfl ?_
    refine j_sipush (v := (144 : Int32)) C d_RM_takeScan_93 (by decide) ?_
    refine j_icmp_ge (tgt := 131) C d_RM_takeScan_96 (by decide) (fun c160 => ?_) (fun c160 => ?_)
    · exact hex (a4, σ)
    · refine j_aload_n C d_RM_takeScan_99 0 rfl ?_
      refine j_getR C hr0 fl_RM_56 rfl d_RM_takeScan_100 ?_
      refine j_sipush (v := (144 : Int32)) C d_RM_takeScan_103 (by decide) ?_
      refine j_iload_n C d_RM_takeScan_106 3 rfl ?_
      refine j_imul C d_RM_takeScan_107 ?_
      refine j_iload C d_RM_takeScan_108 4 rfl ?_
      refine j_iadd C d_RM_takeScan_110 ?_
      refine j_aload_n C d_RM_takeScan_111 0 rfl ?_
      refine j_getR C hr0 fl_RM_77 rfl d_RM_takeScan_112 ?_
      refine j_sipush (v := (144 : Int32)) C d_RM_takeScan_115 (by decide) ?_
      refine j_iload_n C d_RM_takeScan_118 3 rfl ?_
      refine j_imul C d_RM_takeScan_119 ?_
      refine j_iload C d_RM_takeScan_120 4 rfl ?_
      refine j_iadd C d_RM_takeScan_122 ?_
      refine j_need (by exact h0) (fun g161 => ?_)
      refine j_iald C (tg_11_51 _ hr0) (inb_in g161) d_RM_takeScan_123 ?_
      refine j_need (by exact h0) (fun g162 => ?_)
      refine j_iast C (tg_11_44 _ hr0) (inb_in g162) d_RM_takeScan_124 (fun σ163 => ?_)
      refine j_iinc (v := (a4 + (1 : Int32))) (lv9 := [(0, .ref (fad F r0)), (1, .int b1), (2, .int b2), (3, .int b3), (4, .int (a4 + (1 : Int32)))]) C d_RM_takeScan_125 4 rfl rfl rfl rfl (by decide) ?_
      refine j_goto (tgt := 91) C d_RM_takeScan_128 (by decide) ?_
      exact ih (a4 + (1 : Int32)) σ163
set_option maxHeartbeats 4000000 in
set_option maxRecDepth 100000 in
theorem wL_RM_takeScan_74 {F : Fx} (C : Ctx F prog_13_method_50_code 5 "LineFramesModel" none 5 122) {cv : Option (Int32 × Mem) → Option Rs} (h0 : cv none = none) (r0 : Nat) (hr0 : Is r0 11) (b1 : Int32) (b2 : Int32) (hex : ∀ q : Int32 × Mem, J F 5 cv (some q) q.2 137 [(0, .ref (fad F r0)), (1, .int b1), (2, .int b2), (3, .int q.1)] []) : ∀ (n : Nat) (a3 : Int32) (σ : Mem), J F 5 cv (L_RM_takeScan_74 r0 b1 b2 n a3 σ) σ 74 [(0, .ref (fad F r0)), (1, .int b1), (2, .int b2), (3, .int a3)] [] := by
  intro n
  induction n with
  | zero => intro a3 σ hE; rw [L_RM_takeScan_74, h0] at hE; cases hE
  | succ n ih =>
    intro a3 σ
    rw [L_RM_takeScan_74]
    refine j_iload_n C d_RM_takeScan_74 3 rfl ?_
    refine j_iload_n C d_RM_takeScan_75 2 rfl ?_
    refine j_iload_n C d_RM_takeScan_76 1 rfl ?_
    refine j_iadd C d_RM_takeScan_77 ?_
    refine j_icmp_ge (tgt := 137) C d_RM_takeScan_78 (by decide) (fun c157 => ?_) (fun c157 => ?_)
    · exact hex (a3, σ)
    · refine j_aload_n C d_RM_takeScan_81 0 rfl ?_
      refine j_getR C hr0 fl_RM_74 rfl d_RM_takeScan_82 ?_
      refine j_iload_n C d_RM_takeScan_85 3 rfl ?_
      refine j_iconst (v := (1 : Int32)) C d_RM_takeScan_86 (by decide) ?_
      refine j_need (by exact h0) (fun g158 => ?_)
      refine j_zast C (tg_11_50 _ hr0) (inb_in g158) d_RM_takeScan_87 (fun σ159 => ?_)
      refine j_iconst (v := (0 : Int32)) C d_RM_takeScan_88 (by decide) ?_
      refine j_istore (lv9 := [(0, .ref (fad F r0)), (1, .int b1), (2, .int b2), (3, .int a3), (4, .int (0 : Int32))]) C d_RM_takeScan_89 rfl rfl (by decide) ?_
      refine j_loop (wL_RM_takeScan_91 C (by exact h0) r0 hr0 b1 b2 a3 (fun q164 => j_some ?_) 9999 (0 : Int32) σ159)
      refine j_iinc (v := (a3 + (1 : Int32))) (lv9 := [(0, .ref (fad F r0)), (1, .int b1), (2, .int b2), (3, .int (a3 + (1 : Int32))), (4, .int q164.1)]) C d_RM_takeScan_131 3 rfl rfl rfl rfl (by decide) ?_
      refine j_goto (tgt := 74) C d_RM_takeScan_134 (by decide) ?_
      refine j_sub (lv9 := [(0, .ref (fad F r0)), (1, .int b1), (2, .int b2), (3, .int (a3 + (1 : Int32)))]) [0, 1, 2, 3] rfl ?_
      exact ih (a3 + (1 : Int32)) q164.2
set_option maxHeartbeats 4000000 in
set_option maxRecDepth 100000 in
theorem w_RM_takeScan {F : Fx} (C : Ctx F prog_13_method_50_code 5 "LineFramesModel" none 5 122) {k0 : Nat} (h0k : Is k0 11) (σ : Mem) : J F 5 (cvO cvM) (f_RM_takeScan k0 σ) σ 0 [(0, .ref (fad F k0))] [] := by
  unfold f_RM_takeScan
  refine j_aload_n C d_RM_takeScan_0 0 rfl ?_
  refine j_getR C h0k fl_RM_32 rfl d_RM_takeScan_1 ?_
  refine j_aload_n C d_RM_takeScan_4 0 rfl ?_
  refine j_getI C h0k fl_RM_216 rfl d_RM_takeScan_5 ?_
  refine j_iconst (v := (4 : Int32)) C d_RM_takeScan_8 (by decide) ?_
  refine j_iadd C d_RM_takeScan_9 ?_
  refine j_need rfl (fun g1 => ?_)
  refine j_iald C (tg_11_18 _ h0k) (inb_in g1) d_RM_takeScan_10 ?_
  refine j_nm (fun v2 v2_e => ?_)
  refine j_istore_n (lv9 := [(0, .ref (fad F k0)), (1, .int v2)]) C d_RM_takeScan_11 rfl rfl (by decide) ?_
  refine j_iload_n C d_RM_takeScan_12 1 rfl ?_
  refine j_iconst (v := (1 : Int32)) C d_RM_takeScan_13 (by decide) ?_
  refine j_join1 34 (fun _ => [(0, .ref (fad F k0)), (1, .int v2)]) (fun y148 => [.int y148]) (fun y148 => ?_) (fun K149 H150 => ?_)
  · refine j_istore_n (lv9 := [(0, .ref (fad F k0)), (1, .int v2), (2, .int y148)]) C d_RM_takeScan_34 rfl rfl (by decide) ?_
    refine j_aload_n C d_RM_takeScan_35 0 rfl ?_
    refine j_aload_n C d_RM_takeScan_36 0 rfl ?_
    refine j_getI C h0k fl_RM_216 rfl d_RM_takeScan_37 ?_
    refine j_iconst (v := (2 : Int32)) C d_RM_takeScan_40 (by decide) ?_
    refine j_iadd C d_RM_takeScan_41 ?_
    refine j_aload_n C d_RM_takeScan_42 0 rfl ?_
    refine j_aload_n C d_RM_takeScan_43 0 rfl ?_
    refine j_getI C h0k fl_RM_216 rfl d_RM_takeScan_44 ?_
    refine j_iconst (v := (2 : Int32)) C d_RM_takeScan_47 (by decide) ?_
    refine j_iadd C d_RM_takeScan_48 ?_
    refine j_bind rfl (fun r152 e151 => ?_)
    refine j_callVi C mv_RM_230 [.int ((σ k0 32) + (2 : Int32))] [.int ((σ k0 32) + (2 : Int32)), .ref (fad F k0)] h0k (c_RM_wide h0k ((σ k0 32) + (2 : Int32)) σ e151) rfl rfl (by decide) (Nat.le_of_ble_eq_true rfl) d_RM_takeScan_49 ?_
    refine j_iadd C d_RM_takeScan_52 ?_
    refine j_put C h0k fl_RM_263 fw_11_60 rfl rfl rfl d_RM_takeScan_53 (fun σ153 => ?_)
    refine j_aload_n C d_RM_takeScan_56 0 rfl ?_
    refine j_iload_n C d_RM_takeScan_57 2 rfl ?_
    refine j_iload_n C d_RM_takeScan_58 2 rfl ?_
    refine j_iload_n C d_RM_takeScan_59 1 rfl ?_
    refine j_iadd C d_RM_takeScan_60 ?_
    refine j_bind rfl (fun σ155 e154 => ?_)
    refine j_callVv C mv_RM_293 [.int y148, .int (y148 + v2)] [] h0k (c_RM_hearData h0k y148 (y148 + v2) σ153 e154) rfl rfl (by decide) (Nat.le_of_ble_eq_true rfl) d_RM_takeScan_61 ?_
    refine j_aload_n C d_RM_takeScan_64 0 rfl ?_
    refine j_getI C h0k fl_RM_210 rfl d_RM_takeScan_65 ?_
    refine j_if_le (tgt := 72) C d_RM_takeScan_68 (by decide) (fun c156 => ?_) (fun c156 => ?_)
    · refine j_iload_n C d_RM_takeScan_72 2 rfl ?_
      refine j_istore_n (lv9 := [(0, .ref (fad F k0)), (1, .int v2), (2, .int y148), (3, .int y148)]) C d_RM_takeScan_73 rfl rfl (by decide) ?_
      refine j_loop (wL_RM_takeScan_74 C rfl k0 h0k v2 y148 (fun q165 => j_some ?_) 9999 y148 σ155)
      refine j_aload_n C d_RM_takeScan_137 0 rfl ?_
      refine j_dup C d_RM_takeScan_138 rfl ?_
      refine j_getI C h0k fl_RM_296 rfl d_RM_takeScan_139 ?_
      refine j_iconst (v := (1 : Int32)) C d_RM_takeScan_142 (by decide) ?_
      refine j_iadd C d_RM_takeScan_143 ?_
      refine j_put C h0k fl_RM_296 fw_11_31 rfl rfl rfl d_RM_takeScan_144 (fun σ166 => ?_)
      refine j_aload_n C d_RM_takeScan_147 0 rfl ?_
      refine j_aload_n C d_RM_takeScan_148 0 rfl ?_
      refine j_getI C h0k fl_RM_263 rfl d_RM_takeScan_149 ?_
      refine j_put C h0k fl_RM_216 fw_11_32 rfl rfl rfl d_RM_takeScan_152 (fun σ167 => ?_)
      exact j_vret C (fun ρ h => leaf_eq h) d_RM_takeScan_155
    · exact j_vret C (fun ρ h => leaf_eq h) d_RM_takeScan_71
  · refine j_icmp_ne (tgt := 33) C d_RM_takeScan_14 (by decide) (fun c168 => ?_) (fun c168 => ?_)
    · refine j_iconst (v := (0 : Int32)) C d_RM_takeScan_33 (by decide) ?_
      exact H150 (0 : Int32)
    · refine j_aload_n C d_RM_takeScan_17 0 rfl ?_
      refine j_getR C h0k fl_RM_32 rfl d_RM_takeScan_18 ?_
      refine j_aload_n C d_RM_takeScan_21 0 rfl ?_
      refine j_getI C h0k fl_RM_216 rfl d_RM_takeScan_22 ?_
      refine j_iconst (v := (5 : Int32)) C d_RM_takeScan_25 (by decide) ?_
      refine j_iadd C d_RM_takeScan_26 ?_
      refine j_need rfl (fun g169 => ?_)
      refine j_iald C (tg_11_18 _ h0k) (inb_in g169) d_RM_takeScan_27 ?_
      refine j_iconst (v := (1 : Int32)) C d_RM_takeScan_28 (by decide) ?_
      refine j_isub C d_RM_takeScan_29 ?_
      refine j_goto (tgt := 34) C d_RM_takeScan_30 (by decide) ?_
      exact H150 ((σ (wtg k0 18) ((σ k0 32) + (5 : Int32)).toNatClampNeg) - (1 : Int32))
theorem c_RM_takeScan {l : Launch} {D : va_G} {G : GC} {ad : Nat → Nat} {k0 : Nat} (h0k : Is k0 11) (σ : Mem) {q : Mem} (hq : f_RM_takeScan k0 σ = some q) : Ctr l D G ad ⟨"LineFramesModel", "takeScan", "()V"⟩ prog_13_method_50_code 5 none 5 122 [.ref (ad k0)] σ (.inl none, q) := ctr_J (cv := (cvO cvM)) (E := f_RM_takeScan k0 σ) (by decide +kernel) (Nat.le_of_ble_eq_true rfl) (by rw [hq]; rfl) (fun F h C => by subst h; exact w_RM_takeScan C h0k σ)
/-! LineFramesModel takeSegment ()V -/
theorem d_RM_takeSegment_0 : decode prog_13_method_51_code 0 = .ok (.aload_n 0, 1) := by decide +kernel
theorem d_RM_takeSegment_1 : decode prog_13_method_51_code 1 = .ok (.getfield 32, 3) := by decide +kernel
theorem d_RM_takeSegment_4 : decode prog_13_method_51_code 4 = .ok (.aload_n 0, 1) := by decide +kernel
theorem d_RM_takeSegment_5 : decode prog_13_method_51_code 5 = .ok (.getfield 216, 3) := by decide +kernel
theorem d_RM_takeSegment_8 : decode prog_13_method_51_code 8 = .ok (.iconst 1, 1) := by decide +kernel
theorem d_RM_takeSegment_9 : decode prog_13_method_51_code 9 = .ok (.iadd, 1) := by decide +kernel
theorem d_RM_takeSegment_10 : decode prog_13_method_51_code 10 = .ok (.iaload, 1) := by decide +kernel
theorem d_RM_takeSegment_11 : decode prog_13_method_51_code 11 = .ok (.istore_n 1, 1) := by decide +kernel
theorem d_RM_takeSegment_12 : decode prog_13_method_51_code 12 = .ok (.aload_n 0, 1) := by decide +kernel
theorem d_RM_takeSegment_13 : decode prog_13_method_51_code 13 = .ok (.invokevirtual 299, 3) := by decide +kernel
theorem d_RM_takeSegment_16 : decode prog_13_method_51_code 16 = .ok (.istore_n 2, 1) := by decide +kernel
theorem d_RM_takeSegment_17 : decode prog_13_method_51_code 17 = .ok (.iload_n 2, 1) := by decide +kernel
theorem d_RM_takeSegment_18 : decode prog_13_method_51_code 18 = .ok (.ifCond .ne 4, 3) := by decide +kernel
theorem d_RM_takeSegment_21 : decode prog_13_method_51_code 21 = .ok (.return_, 1) := by decide +kernel
theorem d_RM_takeSegment_22 : decode prog_13_method_51_code 22 = .ok (.iload_n 1, 1) := by decide +kernel
theorem d_RM_takeSegment_23 : decode prog_13_method_51_code 23 = .ok (.sipush 247, 3) := by decide +kernel
theorem d_RM_takeSegment_26 : decode prog_13_method_51_code 26 = .ok (.if_icmp .ne 10, 3) := by decide +kernel
theorem d_RM_takeSegment_29 : decode prog_13_method_51_code 29 = .ok (.aload_n 0, 1) := by decide +kernel
theorem d_RM_takeSegment_30 : decode prog_13_method_51_code 30 = .ok (.invokevirtual 303, 3) := by decide +kernel
theorem d_RM_takeSegment_33 : decode prog_13_method_51_code 33 = .ok (.goto 49, 3) := by decide +kernel
theorem d_RM_takeSegment_36 : decode prog_13_method_51_code 36 = .ok (.iload_n 1, 1) := by decide +kernel
theorem d_RM_takeSegment_37 : decode prog_13_method_51_code 37 = .ok (.sipush 248, 3) := by decide +kernel
theorem d_RM_takeSegment_40 : decode prog_13_method_51_code 40 = .ok (.if_icmp .ne 10, 3) := by decide +kernel
theorem d_RM_takeSegment_43 : decode prog_13_method_51_code 43 = .ok (.aload_n 0, 1) := by decide +kernel
theorem d_RM_takeSegment_44 : decode prog_13_method_51_code 44 = .ok (.invokevirtual 306, 3) := by decide +kernel
theorem d_RM_takeSegment_47 : decode prog_13_method_51_code 47 = .ok (.goto 35, 3) := by decide +kernel
theorem d_RM_takeSegment_50 : decode prog_13_method_51_code 50 = .ok (.iload_n 1, 1) := by decide +kernel
theorem d_RM_takeSegment_51 : decode prog_13_method_51_code 51 = .ok (.sipush 221, 3) := by decide +kernel
theorem d_RM_takeSegment_54 : decode prog_13_method_51_code 54 = .ok (.if_icmp .ne 10, 3) := by decide +kernel
theorem d_RM_takeSegment_57 : decode prog_13_method_51_code 57 = .ok (.aload_n 0, 1) := by decide +kernel
theorem d_RM_takeSegment_58 : decode prog_13_method_51_code 58 = .ok (.invokevirtual 309, 3) := by decide +kernel
theorem d_RM_takeSegment_61 : decode prog_13_method_51_code 61 = .ok (.goto 21, 3) := by decide +kernel
theorem d_RM_takeSegment_64 : decode prog_13_method_51_code 64 = .ok (.iload_n 1, 1) := by decide +kernel
theorem d_RM_takeSegment_65 : decode prog_13_method_51_code 65 = .ok (.sipush 218, 3) := by decide +kernel
theorem d_RM_takeSegment_68 : decode prog_13_method_51_code 68 = .ok (.if_icmp .ne 10, 3) := by decide +kernel
theorem d_RM_takeSegment_71 : decode prog_13_method_51_code 71 = .ok (.aload_n 0, 1) := by decide +kernel
theorem d_RM_takeSegment_72 : decode prog_13_method_51_code 72 = .ok (.invokevirtual 312, 3) := by decide +kernel
theorem d_RM_takeSegment_75 : decode prog_13_method_51_code 75 = .ok (.goto 7, 3) := by decide +kernel
theorem d_RM_takeSegment_78 : decode prog_13_method_51_code 78 = .ok (.aload_n 0, 1) := by decide +kernel
theorem d_RM_takeSegment_79 : decode prog_13_method_51_code 79 = .ok (.invokevirtual 315, 3) := by decide +kernel
theorem d_RM_takeSegment_82 : decode prog_13_method_51_code 82 = .ok (.istore_n 2, 1) := by decide +kernel
theorem d_RM_takeSegment_83 : decode prog_13_method_51_code 83 = .ok (.iload_n 2, 1) := by decide +kernel
theorem d_RM_takeSegment_84 : decode prog_13_method_51_code 84 = .ok (.ifCond .eq 17, 3) := by decide +kernel
theorem d_RM_takeSegment_87 : decode prog_13_method_51_code 87 = .ok (.iload_n 1, 1) := by decide +kernel
theorem d_RM_takeSegment_88 : decode prog_13_method_51_code 88 = .ok (.sipush 218, 3) := by decide +kernel
theorem d_RM_takeSegment_91 : decode prog_13_method_51_code 91 = .ok (.if_icmp .ne 10, 3) := by decide +kernel
theorem d_RM_takeSegment_94 : decode prog_13_method_51_code 94 = .ok (.aload_n 0, 1) := by decide +kernel
theorem d_RM_takeSegment_95 : decode prog_13_method_51_code 95 = .ok (.invokevirtual 318, 3) := by decide +kernel
theorem d_RM_takeSegment_98 : decode prog_13_method_51_code 98 = .ok (.goto 28, 3) := by decide +kernel
theorem d_RM_takeSegment_101 : decode prog_13_method_51_code 101 = .ok (.iload_n 2, 1) := by decide +kernel
theorem d_RM_takeSegment_102 : decode prog_13_method_51_code 102 = .ok (.ifCond .eq 24, 3) := by decide +kernel
theorem d_RM_takeSegment_105 : decode prog_13_method_51_code 105 = .ok (.aload_n 0, 1) := by decide +kernel
theorem d_RM_takeSegment_106 : decode prog_13_method_51_code 106 = .ok (.dup, 1) := by decide +kernel
theorem d_RM_takeSegment_107 : decode prog_13_method_51_code 107 = .ok (.getfield 216, 3) := by decide +kernel
theorem d_RM_takeSegment_110 : decode prog_13_method_51_code 110 = .ok (.iconst 2, 1) := by decide +kernel
theorem d_RM_takeSegment_111 : decode prog_13_method_51_code 111 = .ok (.aload_n 0, 1) := by decide +kernel
theorem d_RM_takeSegment_112 : decode prog_13_method_51_code 112 = .ok (.aload_n 0, 1) := by decide +kernel
theorem d_RM_takeSegment_113 : decode prog_13_method_51_code 113 = .ok (.getfield 216, 3) := by decide +kernel
theorem d_RM_takeSegment_116 : decode prog_13_method_51_code 116 = .ok (.iconst 2, 1) := by decide +kernel
theorem d_RM_takeSegment_117 : decode prog_13_method_51_code 117 = .ok (.iadd, 1) := by decide +kernel
theorem d_RM_takeSegment_118 : decode prog_13_method_51_code 118 = .ok (.invokevirtual 230, 3) := by decide +kernel
theorem d_RM_takeSegment_121 : decode prog_13_method_51_code 121 = .ok (.iadd, 1) := by decide +kernel
theorem d_RM_takeSegment_122 : decode prog_13_method_51_code 122 = .ok (.iadd, 1) := by decide +kernel
theorem d_RM_takeSegment_123 : decode prog_13_method_51_code 123 = .ok (.putfield 216, 3) := by decide +kernel
theorem d_RM_takeSegment_126 : decode prog_13_method_51_code 126 = .ok (.return_, 1) := by decide +kernel
def f_RM_takeSegment (k0 : Nat) (σ : Mem) : Option (Mem) :=
  if inb ((σ k0 32) + (1 : Int32)) (wln (wtg k0 18)) = true then
  lt (σ (wtg k0 18) ((σ k0 32) + (1 : Int32)).toNatClampNeg) fun v2 =>
  (f_RM_isSegment k0 σ).bind fun q4 =>
  if q4.1 = 0 then
  some (q4.2)
  else
  lt (fun (y207 : Int32) (σ208 : Mem) => 
  lt (fun  (σ274 : Mem) => 
  if y207 = 0 then
  some (σ274)
  else
  (f_RM_wide k0 ((σ274 k0 32) + (2 : Int32)) σ274).bind fun r281 =>
  lt (mput σ274 k0 32 ((σ274 k0 32) + ((2 : Int32) + r281))) fun σ282 =>
  some (σ282)) fun K275 =>
  if y207 = 0 then
  K275 σ208
  else
  if v2 = (218 : Int32) then
  (f_RM_takeScan k0 σ208).bind fun σ286 =>
  some (σ286)
  else
  K275 σ208) fun K209 =>
  if v2 = (247 : Int32) then
  (f_RM_isFrame k0 q4.2).bind fun q300 =>
  K209 q300.1 q300.2
  else
  if v2 = (248 : Int32) then
  (f_RM_isPreset k0 q4.2).bind fun q298 =>
  K209 q298.1 q298.2
  else
  if v2 = (221 : Int32) then
  (f_RM_isRestart k0 q4.2).bind fun q296 =>
  K209 q296.1 q296.2
  else
  if v2 = (218 : Int32) then
  (f_RM_isScan k0 q4.2).bind fun q294 =>
  K209 q294.1 q294.2
  else
  (f_RM_isNote k0 q4.2).bind fun q292 =>
  K209 q292.1 q292.2
  else none
set_option maxHeartbeats 4000000 in
set_option maxRecDepth 100000 in
theorem w_RM_takeSegment {F : Fx} (C : Ctx F prog_13_method_51_code 3 "LineFramesModel" none 6 146) {k0 : Nat} (h0k : Is k0 11) (σ : Mem) : J F 3 (cvO cvM) (f_RM_takeSegment k0 σ) σ 0 [(0, .ref (fad F k0))] [] := by
  unfold f_RM_takeSegment
  refine j_aload_n C d_RM_takeSegment_0 0 rfl ?_
  refine j_getR C h0k fl_RM_32 rfl d_RM_takeSegment_1 ?_
  refine j_aload_n C d_RM_takeSegment_4 0 rfl ?_
  refine j_getI C h0k fl_RM_216 rfl d_RM_takeSegment_5 ?_
  refine j_iconst (v := (1 : Int32)) C d_RM_takeSegment_8 (by decide) ?_
  refine j_iadd C d_RM_takeSegment_9 ?_
  refine j_need rfl (fun g1 => ?_)
  refine j_iald C (tg_11_18 _ h0k) (inb_in g1) d_RM_takeSegment_10 ?_
  refine j_nm (fun v2 v2_e => ?_)
  refine j_istore_n (lv9 := [(0, .ref (fad F k0)), (1, .int v2)]) C d_RM_takeSegment_11 rfl rfl (by decide) ?_
  refine j_aload_n C d_RM_takeSegment_12 0 rfl ?_
  refine j_bind rfl (fun q4 e3 => ?_)
  refine j_callVi C mv_RM_299 [] [] h0k (c_RM_isSegment h0k σ e3) rfl rfl (by decide) (Nat.le_of_ble_eq_true rfl) d_RM_takeSegment_13 ?_
  refine j_istore_n (lv9 := [(0, .ref (fad F k0)), (1, .int v2), (2, .int q4.1)]) C d_RM_takeSegment_16 rfl rfl (by decide) ?_
  refine j_iload_n C d_RM_takeSegment_17 2 rfl ?_
  refine j_if_ne (tgt := 22) C d_RM_takeSegment_18 (by decide) (fun c5 => ?_) (fun c5 => ?_)
  · refine j_iload_n C d_RM_takeSegment_22 1 rfl ?_
    refine j_sipush (v := (247 : Int32)) C d_RM_takeSegment_23 (by decide) ?_
    refine j_join1m 82 (fun _ _ => [(0, .ref (fad F k0)), (1, .int v2), (2, .int q4.1)]) (fun y207 _ => [.int y207]) (fun y207 σ208 => ?_) (fun K209 H210 => ?_)
    · refine j_istore_n (lv9 := [(0, .ref (fad F k0)), (1, .int v2), (2, .int y207)]) C d_RM_takeSegment_82 rfl rfl (by decide) ?_
      refine j_iload_n C d_RM_takeSegment_83 2 rfl ?_
      refine j_join0m 101 (fun _ => [(0, .ref (fad F k0)), (1, .int v2), (2, .int y207)]) (fun _ => []) (fun σ274 => ?_) (fun K275 H276 => ?_)
      · refine j_iload_n C d_RM_takeSegment_101 2 rfl ?_
        refine j_if_eq (tgt := 126) C d_RM_takeSegment_102 (by decide) (fun c279 => ?_) (fun c279 => ?_)
        · exact j_vret C (fun ρ h => leaf_eq h) d_RM_takeSegment_126
        · refine j_aload_n C d_RM_takeSegment_105 0 rfl ?_
          refine j_dup C d_RM_takeSegment_106 rfl ?_
          refine j_getI C h0k fl_RM_216 rfl d_RM_takeSegment_107 ?_
          refine j_iconst (v := (2 : Int32)) C d_RM_takeSegment_110 (by decide) ?_
          refine j_aload_n C d_RM_takeSegment_111 0 rfl ?_
          refine j_aload_n C d_RM_takeSegment_112 0 rfl ?_
          refine j_getI C h0k fl_RM_216 rfl d_RM_takeSegment_113 ?_
          refine j_iconst (v := (2 : Int32)) C d_RM_takeSegment_116 (by decide) ?_
          refine j_iadd C d_RM_takeSegment_117 ?_
          refine j_bind rfl (fun r281 e280 => ?_)
          refine j_callVi C mv_RM_230 [.int ((σ274 k0 32) + (2 : Int32))] [.int (2 : Int32), .int (σ274 k0 32), .ref (fad F k0)] h0k (c_RM_wide h0k ((σ274 k0 32) + (2 : Int32)) σ274 e280) rfl rfl (by decide) (Nat.le_of_ble_eq_true rfl) d_RM_takeSegment_118 ?_
          refine j_iadd C d_RM_takeSegment_121 ?_
          refine j_iadd C d_RM_takeSegment_122 ?_
          refine j_put C h0k fl_RM_216 fw_11_32 rfl rfl rfl d_RM_takeSegment_123 (fun σ282 => ?_)
          exact j_vret C (fun ρ h => leaf_eq h) d_RM_takeSegment_126
      · refine j_if_eq (tgt := 101) C d_RM_takeSegment_84 (by decide) (fun c283 => ?_) (fun c283 => ?_)
        · exact H276 σ208
        · refine j_iload_n C d_RM_takeSegment_87 1 rfl ?_
          refine j_sipush (v := (218 : Int32)) C d_RM_takeSegment_88 (by decide) ?_
          refine j_icmp_ne (tgt := 101) C d_RM_takeSegment_91 (by decide) (fun c284 => ?_) (fun c284 => ?_)
          · exact H276 σ208
          · refine j_aload_n C d_RM_takeSegment_94 0 rfl ?_
            refine j_bind rfl (fun σ286 e285 => ?_)
            refine j_callVv C mv_RM_318 [] [] h0k (c_RM_takeScan h0k σ208 e285) rfl rfl (by decide) (Nat.le_of_ble_eq_true rfl) d_RM_takeSegment_95 ?_
            refine j_goto (tgt := 126) C d_RM_takeSegment_98 (by decide) ?_
            exact j_vret C (fun ρ h => leaf_eq h) d_RM_takeSegment_126
    · refine j_icmp_ne (tgt := 36) C d_RM_takeSegment_26 (by decide) (fun c287 => ?_) (fun c287 => ?_)
      · refine j_iload_n C d_RM_takeSegment_36 1 rfl ?_
        refine j_sipush (v := (248 : Int32)) C d_RM_takeSegment_37 (by decide) ?_
        refine j_icmp_ne (tgt := 50) C d_RM_takeSegment_40 (by decide) (fun c288 => ?_) (fun c288 => ?_)
        · refine j_iload_n C d_RM_takeSegment_50 1 rfl ?_
          refine j_sipush (v := (221 : Int32)) C d_RM_takeSegment_51 (by decide) ?_
          refine j_icmp_ne (tgt := 64) C d_RM_takeSegment_54 (by decide) (fun c289 => ?_) (fun c289 => ?_)
          · refine j_iload_n C d_RM_takeSegment_64 1 rfl ?_
            refine j_sipush (v := (218 : Int32)) C d_RM_takeSegment_65 (by decide) ?_
            refine j_icmp_ne (tgt := 78) C d_RM_takeSegment_68 (by decide) (fun c290 => ?_) (fun c290 => ?_)
            · refine j_aload_n C d_RM_takeSegment_78 0 rfl ?_
              refine j_bind rfl (fun q292 e291 => ?_)
              refine j_callVi C mv_RM_315 [] [] h0k (c_RM_isNote h0k q4.2 e291) rfl rfl (by decide) (Nat.le_of_ble_eq_true rfl) d_RM_takeSegment_79 ?_
              exact H210 q292.1 q292.2
            · refine j_aload_n C d_RM_takeSegment_71 0 rfl ?_
              refine j_bind rfl (fun q294 e293 => ?_)
              refine j_callVi C mv_RM_312 [] [] h0k (c_RM_isScan h0k q4.2 e293) rfl rfl (by decide) (Nat.le_of_ble_eq_true rfl) d_RM_takeSegment_72 ?_
              refine j_goto (tgt := 82) C d_RM_takeSegment_75 (by decide) ?_
              exact H210 q294.1 q294.2
          · refine j_aload_n C d_RM_takeSegment_57 0 rfl ?_
            refine j_bind rfl (fun q296 e295 => ?_)
            refine j_callVi C mv_RM_309 [] [] h0k (c_RM_isRestart h0k q4.2 e295) rfl rfl (by decide) (Nat.le_of_ble_eq_true rfl) d_RM_takeSegment_58 ?_
            refine j_goto (tgt := 82) C d_RM_takeSegment_61 (by decide) ?_
            exact H210 q296.1 q296.2
        · refine j_aload_n C d_RM_takeSegment_43 0 rfl ?_
          refine j_bind rfl (fun q298 e297 => ?_)
          refine j_callVi C mv_RM_306 [] [] h0k (c_RM_isPreset h0k q4.2 e297) rfl rfl (by decide) (Nat.le_of_ble_eq_true rfl) d_RM_takeSegment_44 ?_
          refine j_goto (tgt := 82) C d_RM_takeSegment_47 (by decide) ?_
          exact H210 q298.1 q298.2
      · refine j_aload_n C d_RM_takeSegment_29 0 rfl ?_
        refine j_bind rfl (fun q300 e299 => ?_)
        refine j_callVi C mv_RM_303 [] [] h0k (c_RM_isFrame h0k q4.2 e299) rfl rfl (by decide) (Nat.le_of_ble_eq_true rfl) d_RM_takeSegment_30 ?_
        refine j_goto (tgt := 82) C d_RM_takeSegment_33 (by decide) ?_
        exact H210 q300.1 q300.2
  · exact j_vret C (fun ρ h => leaf_eq h) d_RM_takeSegment_21
theorem c_RM_takeSegment {l : Launch} {D : va_G} {G : GC} {ad : Nat → Nat} {k0 : Nat} (h0k : Is k0 11) (σ : Mem) {q : Mem} (hq : f_RM_takeSegment k0 σ = some q) : Ctr l D G ad ⟨"LineFramesModel", "takeSegment", "()V"⟩ prog_13_method_51_code 3 none 6 146 [.ref (ad k0)] σ (.inl none, q) := ctr_J (cv := (cvO cvM)) (E := f_RM_takeSegment k0 σ) (by decide +kernel) (Nat.le_of_ble_eq_true rfl) (by rw [hq]; rfl) (fun F h C => by subst h; exact w_RM_takeSegment C h0k σ)
/-! LineFramesModel keep ()V -/
theorem d_RM_keep_0 : decode prog_13_method_53_code 0 = .ok (.aload_n 0, 1) := by decide +kernel
theorem d_RM_keep_1 : decode prog_13_method_53_code 1 = .ok (.getfield 35, 3) := by decide +kernel
theorem d_RM_keep_4 : decode prog_13_method_53_code 4 = .ok (.iconst 0, 1) := by decide +kernel
theorem d_RM_keep_5 : decode prog_13_method_53_code 5 = .ok (.aload_n 0, 1) := by decide +kernel
theorem d_RM_keep_6 : decode prog_13_method_53_code 6 = .ok (.getfield 242, 3) := by decide +kernel
theorem d_RM_keep_9 : decode prog_13_method_53_code 9 = .ok (.iastore, 1) := by decide +kernel
theorem d_RM_keep_10 : decode prog_13_method_53_code 10 = .ok (.aload_n 0, 1) := by decide +kernel
theorem d_RM_keep_11 : decode prog_13_method_53_code 11 = .ok (.getfield 35, 3) := by decide +kernel
theorem d_RM_keep_14 : decode prog_13_method_53_code 14 = .ok (.iconst 1, 1) := by decide +kernel
theorem d_RM_keep_15 : decode prog_13_method_53_code 15 = .ok (.aload_n 0, 1) := by decide +kernel
theorem d_RM_keep_16 : decode prog_13_method_53_code 16 = .ok (.getfield 239, 3) := by decide +kernel
theorem d_RM_keep_19 : decode prog_13_method_53_code 19 = .ok (.iastore, 1) := by decide +kernel
theorem d_RM_keep_20 : decode prog_13_method_53_code 20 = .ok (.aload_n 0, 1) := by decide +kernel
theorem d_RM_keep_21 : decode prog_13_method_53_code 21 = .ok (.getfield 35, 3) := by decide +kernel
theorem d_RM_keep_24 : decode prog_13_method_53_code 24 = .ok (.iconst 2, 1) := by decide +kernel
theorem d_RM_keep_25 : decode prog_13_method_53_code 25 = .ok (.aload_n 0, 1) := by decide +kernel
theorem d_RM_keep_26 : decode prog_13_method_53_code 26 = .ok (.getfield 236, 3) := by decide +kernel
theorem d_RM_keep_29 : decode prog_13_method_53_code 29 = .ok (.iastore, 1) := by decide +kernel
theorem d_RM_keep_30 : decode prog_13_method_53_code 30 = .ok (.aload_n 0, 1) := by decide +kernel
theorem d_RM_keep_31 : decode prog_13_method_53_code 31 = .ok (.getfield 35, 3) := by decide +kernel
theorem d_RM_keep_34 : decode prog_13_method_53_code 34 = .ok (.iconst 3, 1) := by decide +kernel
theorem d_RM_keep_35 : decode prog_13_method_53_code 35 = .ok (.aload_n 0, 1) := by decide +kernel
theorem d_RM_keep_36 : decode prog_13_method_53_code 36 = .ok (.getfield 227, 3) := by decide +kernel
theorem d_RM_keep_39 : decode prog_13_method_53_code 39 = .ok (.iastore, 1) := by decide +kernel
theorem d_RM_keep_40 : decode prog_13_method_53_code 40 = .ok (.aload_n 0, 1) := by decide +kernel
theorem d_RM_keep_41 : decode prog_13_method_53_code 41 = .ok (.getfield 35, 3) := by decide +kernel
theorem d_RM_keep_44 : decode prog_13_method_53_code 44 = .ok (.iconst 4, 1) := by decide +kernel
theorem d_RM_keep_45 : decode prog_13_method_53_code 45 = .ok (.aload_n 0, 1) := by decide +kernel
theorem d_RM_keep_46 : decode prog_13_method_53_code 46 = .ok (.getfield 254, 3) := by decide +kernel
theorem d_RM_keep_49 : decode prog_13_method_53_code 49 = .ok (.iastore, 1) := by decide +kernel
theorem d_RM_keep_50 : decode prog_13_method_53_code 50 = .ok (.aload_n 0, 1) := by decide +kernel
theorem d_RM_keep_51 : decode prog_13_method_53_code 51 = .ok (.getfield 35, 3) := by decide +kernel
theorem d_RM_keep_54 : decode prog_13_method_53_code 54 = .ok (.iconst 5, 1) := by decide +kernel
theorem d_RM_keep_55 : decode prog_13_method_53_code 55 = .ok (.aload_n 0, 1) := by decide +kernel
theorem d_RM_keep_56 : decode prog_13_method_53_code 56 = .ok (.getfield 257, 3) := by decide +kernel
theorem d_RM_keep_59 : decode prog_13_method_53_code 59 = .ok (.iastore, 1) := by decide +kernel
theorem d_RM_keep_60 : decode prog_13_method_53_code 60 = .ok (.aload_n 0, 1) := by decide +kernel
theorem d_RM_keep_61 : decode prog_13_method_53_code 61 = .ok (.getfield 35, 3) := by decide +kernel
theorem d_RM_keep_64 : decode prog_13_method_53_code 64 = .ok (.bipush 6, 2) := by decide +kernel
theorem d_RM_keep_66 : decode prog_13_method_53_code 66 = .ok (.aload_n 0, 1) := by decide +kernel
theorem d_RM_keep_67 : decode prog_13_method_53_code 67 = .ok (.getfield 245, 3) := by decide +kernel
theorem d_RM_keep_70 : decode prog_13_method_53_code 70 = .ok (.iastore, 1) := by decide +kernel
theorem d_RM_keep_71 : decode prog_13_method_53_code 71 = .ok (.aload_n 0, 1) := by decide +kernel
theorem d_RM_keep_72 : decode prog_13_method_53_code 72 = .ok (.getfield 35, 3) := by decide +kernel
theorem d_RM_keep_75 : decode prog_13_method_53_code 75 = .ok (.bipush 7, 2) := by decide +kernel
theorem d_RM_keep_77 : decode prog_13_method_53_code 77 = .ok (.aload_n 0, 1) := by decide +kernel
theorem d_RM_keep_78 : decode prog_13_method_53_code 78 = .ok (.getfield 248, 3) := by decide +kernel
theorem d_RM_keep_81 : decode prog_13_method_53_code 81 = .ok (.iastore, 1) := by decide +kernel
theorem d_RM_keep_82 : decode prog_13_method_53_code 82 = .ok (.aload_n 0, 1) := by decide +kernel
theorem d_RM_keep_83 : decode prog_13_method_53_code 83 = .ok (.getfield 35, 3) := by decide +kernel
theorem d_RM_keep_86 : decode prog_13_method_53_code 86 = .ok (.bipush 8, 2) := by decide +kernel
theorem d_RM_keep_88 : decode prog_13_method_53_code 88 = .ok (.aload_n 0, 1) := by decide +kernel
theorem d_RM_keep_89 : decode prog_13_method_53_code 89 = .ok (.getfield 251, 3) := by decide +kernel
theorem d_RM_keep_92 : decode prog_13_method_53_code 92 = .ok (.iastore, 1) := by decide +kernel
theorem d_RM_keep_93 : decode prog_13_method_53_code 93 = .ok (.aload_n 0, 1) := by decide +kernel
theorem d_RM_keep_94 : decode prog_13_method_53_code 94 = .ok (.getfield 35, 3) := by decide +kernel
theorem d_RM_keep_97 : decode prog_13_method_53_code 97 = .ok (.bipush 9, 2) := by decide +kernel
theorem d_RM_keep_99 : decode prog_13_method_53_code 99 = .ok (.aload_n 0, 1) := by decide +kernel
theorem d_RM_keep_100 : decode prog_13_method_53_code 100 = .ok (.getfield 233, 3) := by decide +kernel
theorem d_RM_keep_103 : decode prog_13_method_53_code 103 = .ok (.iastore, 1) := by decide +kernel
theorem d_RM_keep_104 : decode prog_13_method_53_code 104 = .ok (.iconst 0, 1) := by decide +kernel
theorem d_RM_keep_105 : decode prog_13_method_53_code 105 = .ok (.istore_n 1, 1) := by decide +kernel
theorem d_RM_keep_106 : decode prog_13_method_53_code 106 = .ok (.iload_n 1, 1) := by decide +kernel
theorem d_RM_keep_107 : decode prog_13_method_53_code 107 = .ok (.sipush 576, 3) := by decide +kernel
theorem d_RM_keep_110 : decode prog_13_method_53_code 110 = .ok (.if_icmp .ge 21, 3) := by decide +kernel
theorem d_RM_keep_113 : decode prog_13_method_53_code 113 = .ok (.aload_n 0, 1) := by decide +kernel
theorem d_RM_keep_114 : decode prog_13_method_53_code 114 = .ok (.getfield 38, 3) := by decide +kernel
theorem d_RM_keep_117 : decode prog_13_method_53_code 117 = .ok (.iload_n 1, 1) := by decide +kernel
theorem d_RM_keep_118 : decode prog_13_method_53_code 118 = .ok (.aload_n 0, 1) := by decide +kernel
theorem d_RM_keep_119 : decode prog_13_method_53_code 119 = .ok (.getfield 56, 3) := by decide +kernel
theorem d_RM_keep_122 : decode prog_13_method_53_code 122 = .ok (.iload_n 1, 1) := by decide +kernel
theorem d_RM_keep_123 : decode prog_13_method_53_code 123 = .ok (.iaload, 1) := by decide +kernel
theorem d_RM_keep_124 : decode prog_13_method_53_code 124 = .ok (.iastore, 1) := by decide +kernel
theorem d_RM_keep_125 : decode prog_13_method_53_code 125 = .ok (.iinc 1 1, 3) := by decide +kernel
theorem d_RM_keep_128 : decode prog_13_method_53_code 128 = .ok (.goto (-22), 3) := by decide +kernel
theorem d_RM_keep_131 : decode prog_13_method_53_code 131 = .ok (.iconst 0, 1) := by decide +kernel
theorem d_RM_keep_132 : decode prog_13_method_53_code 132 = .ok (.istore_n 1, 1) := by decide +kernel
theorem d_RM_keep_133 : decode prog_13_method_53_code 133 = .ok (.iload_n 1, 1) := by decide +kernel
theorem d_RM_keep_134 : decode prog_13_method_53_code 134 = .ok (.sipush 1024, 3) := by decide +kernel
theorem d_RM_keep_137 : decode prog_13_method_53_code 137 = .ok (.if_icmp .ge 21, 3) := by decide +kernel
theorem d_RM_keep_140 : decode prog_13_method_53_code 140 = .ok (.aload_n 0, 1) := by decide +kernel
theorem d_RM_keep_141 : decode prog_13_method_53_code 141 = .ok (.getfield 44, 3) := by decide +kernel
theorem d_RM_keep_144 : decode prog_13_method_53_code 144 = .ok (.iload_n 1, 1) := by decide +kernel
theorem d_RM_keep_145 : decode prog_13_method_53_code 145 = .ok (.aload_n 0, 1) := by decide +kernel
theorem d_RM_keep_146 : decode prog_13_method_53_code 146 = .ok (.getfield 62, 3) := by decide +kernel
theorem d_RM_keep_149 : decode prog_13_method_53_code 149 = .ok (.iload_n 1, 1) := by decide +kernel
theorem d_RM_keep_150 : decode prog_13_method_53_code 150 = .ok (.iaload, 1) := by decide +kernel
theorem d_RM_keep_151 : decode prog_13_method_53_code 151 = .ok (.iastore, 1) := by decide +kernel
theorem d_RM_keep_152 : decode prog_13_method_53_code 152 = .ok (.iinc 1 1, 3) := by decide +kernel
theorem d_RM_keep_155 : decode prog_13_method_53_code 155 = .ok (.goto (-22), 3) := by decide +kernel
theorem d_RM_keep_158 : decode prog_13_method_53_code 158 = .ok (.iconst 0, 1) := by decide +kernel
theorem d_RM_keep_159 : decode prog_13_method_53_code 159 = .ok (.istore_n 1, 1) := by decide +kernel
theorem d_RM_keep_160 : decode prog_13_method_53_code 160 = .ok (.iload_n 1, 1) := by decide +kernel
theorem d_RM_keep_161 : decode prog_13_method_53_code 161 = .ok (.iconst 4, 1) := by decide +kernel
theorem d_RM_keep_162 : decode prog_13_method_53_code 162 = .ok (.if_icmp .ge 21, 3) := by decide +kernel
theorem d_RM_keep_165 : decode prog_13_method_53_code 165 = .ok (.aload_n 0, 1) := by decide +kernel
theorem d_RM_keep_166 : decode prog_13_method_53_code 166 = .ok (.getfield 41, 3) := by decide +kernel
theorem d_RM_keep_169 : decode prog_13_method_53_code 169 = .ok (.iload_n 1, 1) := by decide +kernel
theorem d_RM_keep_170 : decode prog_13_method_53_code 170 = .ok (.aload_n 0, 1) := by decide +kernel
theorem d_RM_keep_171 : decode prog_13_method_53_code 171 = .ok (.getfield 59, 3) := by decide +kernel
theorem d_RM_keep_174 : decode prog_13_method_53_code 174 = .ok (.iload_n 1, 1) := by decide +kernel
theorem d_RM_keep_175 : decode prog_13_method_53_code 175 = .ok (.baload, 1) := by decide +kernel
theorem d_RM_keep_176 : decode prog_13_method_53_code 176 = .ok (.bastore, 1) := by decide +kernel
theorem d_RM_keep_177 : decode prog_13_method_53_code 177 = .ok (.iinc 1 1, 3) := by decide +kernel
theorem d_RM_keep_180 : decode prog_13_method_53_code 180 = .ok (.goto (-20), 3) := by decide +kernel
theorem d_RM_keep_183 : decode prog_13_method_53_code 183 = .ok (.iconst 0, 1) := by decide +kernel
theorem d_RM_keep_184 : decode prog_13_method_53_code 184 = .ok (.istore_n 1, 1) := by decide +kernel
theorem d_RM_keep_185 : decode prog_13_method_53_code 185 = .ok (.iload_n 1, 1) := by decide +kernel
theorem d_RM_keep_186 : decode prog_13_method_53_code 186 = .ok (.bipush 6, 2) := by decide +kernel
theorem d_RM_keep_188 : decode prog_13_method_53_code 188 = .ok (.if_icmp .ge 33, 3) := by decide +kernel
theorem d_RM_keep_191 : decode prog_13_method_53_code 191 = .ok (.aload_n 0, 1) := by decide +kernel
theorem d_RM_keep_192 : decode prog_13_method_53_code 192 = .ok (.getfield 47, 3) := by decide +kernel
theorem d_RM_keep_195 : decode prog_13_method_53_code 195 = .ok (.iload_n 1, 1) := by decide +kernel
theorem d_RM_keep_196 : decode prog_13_method_53_code 196 = .ok (.aload_n 0, 1) := by decide +kernel
theorem d_RM_keep_197 : decode prog_13_method_53_code 197 = .ok (.getfield 65, 3) := by decide +kernel
theorem d_RM_keep_200 : decode prog_13_method_53_code 200 = .ok (.iload_n 1, 1) := by decide +kernel
theorem d_RM_keep_201 : decode prog_13_method_53_code 201 = .ok (.iaload, 1) := by decide +kernel
theorem d_RM_keep_202 : decode prog_13_method_53_code 202 = .ok (.iastore, 1) := by decide +kernel
theorem d_RM_keep_203 : decode prog_13_method_53_code 203 = .ok (.aload_n 0, 1) := by decide +kernel
theorem d_RM_keep_204 : decode prog_13_method_53_code 204 = .ok (.getfield 50, 3) := by decide +kernel
theorem d_RM_keep_207 : decode prog_13_method_53_code 207 = .ok (.iload_n 1, 1) := by decide +kernel
theorem d_RM_keep_208 : decode prog_13_method_53_code 208 = .ok (.aload_n 0, 1) := by decide +kernel
theorem d_RM_keep_209 : decode prog_13_method_53_code 209 = .ok (.getfield 68, 3) := by decide +kernel
theorem d_RM_keep_212 : decode prog_13_method_53_code 212 = .ok (.iload_n 1, 1) := by decide +kernel
theorem d_RM_keep_213 : decode prog_13_method_53_code 213 = .ok (.iaload, 1) := by decide +kernel
theorem d_RM_keep_214 : decode prog_13_method_53_code 214 = .ok (.iastore, 1) := by decide +kernel
theorem d_RM_keep_215 : decode prog_13_method_53_code 215 = .ok (.iinc 1 1, 3) := by decide +kernel
theorem d_RM_keep_218 : decode prog_13_method_53_code 218 = .ok (.goto (-33), 3) := by decide +kernel
theorem d_RM_keep_221 : decode prog_13_method_53_code 221 = .ok (.iconst 0, 1) := by decide +kernel
theorem d_RM_keep_222 : decode prog_13_method_53_code 222 = .ok (.istore_n 1, 1) := by decide +kernel
theorem d_RM_keep_223 : decode prog_13_method_53_code 223 = .ok (.iload_n 1, 1) := by decide +kernel
theorem d_RM_keep_224 : decode prog_13_method_53_code 224 = .ok (.sipush 180, 3) := by decide +kernel
theorem d_RM_keep_227 : decode prog_13_method_53_code 227 = .ok (.if_icmp .ge 21, 3) := by decide +kernel
theorem d_RM_keep_230 : decode prog_13_method_53_code 230 = .ok (.aload_n 0, 1) := by decide +kernel
theorem d_RM_keep_231 : decode prog_13_method_53_code 231 = .ok (.getfield 53, 3) := by decide +kernel
theorem d_RM_keep_234 : decode prog_13_method_53_code 234 = .ok (.iload_n 1, 1) := by decide +kernel
theorem d_RM_keep_235 : decode prog_13_method_53_code 235 = .ok (.aload_n 0, 1) := by decide +kernel
theorem d_RM_keep_236 : decode prog_13_method_53_code 236 = .ok (.getfield 71, 3) := by decide +kernel
theorem d_RM_keep_239 : decode prog_13_method_53_code 239 = .ok (.iload_n 1, 1) := by decide +kernel
theorem d_RM_keep_240 : decode prog_13_method_53_code 240 = .ok (.iaload, 1) := by decide +kernel
theorem d_RM_keep_241 : decode prog_13_method_53_code 241 = .ok (.iastore, 1) := by decide +kernel
theorem d_RM_keep_242 : decode prog_13_method_53_code 242 = .ok (.iinc 1 1, 3) := by decide +kernel
theorem d_RM_keep_245 : decode prog_13_method_53_code 245 = .ok (.goto (-22), 3) := by decide +kernel
theorem d_RM_keep_248 : decode prog_13_method_53_code 248 = .ok (.return_, 1) := by decide +kernel
def L_RM_keep_106 (r0 : Nat) : Nat → Int32 → Mem →  Option (Int32 × Mem)
  | 0, _, _ => none
  | n + 1, a1, σ =>
  if (576 : Int32) ≤ a1 then
  some (a1, σ)
  else
  if inb a1 (wln (wtg r0 44)) = true then
  if inb a1 (wln (wtg r0 22)) = true then
  lt (mput σ (wtg r0 22) a1.toNatClampNeg (σ (wtg r0 44) a1.toNatClampNeg)) fun σ24 =>
  L_RM_keep_106 r0 n (a1 + (1 : Int32)) σ24
  else none
  else none
def L_RM_keep_133 (r0 : Nat) : Nat → Int32 → Mem →  Option (Int32 × Mem)
  | 0, _, _ => none
  | n + 1, a1, σ =>
  if (1024 : Int32) ≤ a1 then
  some (a1, σ)
  else
  if inb a1 (wln (wtg r0 46)) = true then
  if inb a1 (wln (wtg r0 24)) = true then
  lt (mput σ (wtg r0 24) a1.toNatClampNeg (σ (wtg r0 46) a1.toNatClampNeg)) fun σ29 =>
  L_RM_keep_133 r0 n (a1 + (1 : Int32)) σ29
  else none
  else none
def L_RM_keep_160 (r0 : Nat) : Nat → Int32 → Mem →  Option (Int32 × Mem)
  | 0, _, _ => none
  | n + 1, a1, σ =>
  if (4 : Int32) ≤ a1 then
  some (a1, σ)
  else
  if inb a1 (wln (wtg r0 45)) = true then
  if inb a1 (wln (wtg r0 23)) = true then
  lt (mput σ (wtg r0 23) a1.toNatClampNeg (nz (σ (wtg r0 45) a1.toNatClampNeg))) fun σ34 =>
  L_RM_keep_160 r0 n (a1 + (1 : Int32)) σ34
  else none
  else none
def L_RM_keep_185 (r0 : Nat) : Nat → Int32 → Mem →  Option (Int32 × Mem)
  | 0, _, _ => none
  | n + 1, a1, σ =>
  if (6 : Int32) ≤ a1 then
  some (a1, σ)
  else
  if inb a1 (wln (wtg r0 47)) = true then
  if inb a1 (wln (wtg r0 25)) = true then
  lt (mput σ (wtg r0 25) a1.toNatClampNeg (σ (wtg r0 47) a1.toNatClampNeg)) fun σ39 =>
  if inb a1 (wln (wtg r0 48)) = true then
  if inb a1 (wln (wtg r0 26)) = true then
  lt (mput σ39 (wtg r0 26) a1.toNatClampNeg (σ39 (wtg r0 48) a1.toNatClampNeg)) fun σ42 =>
  L_RM_keep_185 r0 n (a1 + (1 : Int32)) σ42
  else none
  else none
  else none
  else none
def L_RM_keep_223 (r0 : Nat) : Nat → Int32 → Mem →  Option (Int32 × Mem)
  | 0, _, _ => none
  | n + 1, a1, σ =>
  if (180 : Int32) ≤ a1 then
  some (a1, σ)
  else
  if inb a1 (wln (wtg r0 49)) = true then
  if inb a1 (wln (wtg r0 27)) = true then
  lt (mput σ (wtg r0 27) a1.toNatClampNeg (σ (wtg r0 49) a1.toNatClampNeg)) fun σ47 =>
  L_RM_keep_223 r0 n (a1 + (1 : Int32)) σ47
  else none
  else none
def f_RM_keep (k0 : Nat) (σ : Mem) : Option (Mem) :=
  if inb (0 : Int32) (wln (wtg k0 21)) = true then
  lt (mput σ (wtg k0 21) (0 : Int32).toNatClampNeg (σ k0 34)) fun σ2 =>
  if inb (1 : Int32) (wln (wtg k0 21)) = true then
  lt (mput σ2 (wtg k0 21) (1 : Int32).toNatClampNeg (σ2 k0 35)) fun σ4 =>
  if inb (2 : Int32) (wln (wtg k0 21)) = true then
  lt (mput σ4 (wtg k0 21) (2 : Int32).toNatClampNeg (σ4 k0 36)) fun σ6 =>
  if inb (3 : Int32) (wln (wtg k0 21)) = true then
  lt (mput σ6 (wtg k0 21) (3 : Int32).toNatClampNeg (σ6 k0 37)) fun σ8 =>
  if inb (4 : Int32) (wln (wtg k0 21)) = true then
  lt (mput σ8 (wtg k0 21) (4 : Int32).toNatClampNeg (σ8 k0 42)) fun σ10 =>
  if inb (5 : Int32) (wln (wtg k0 21)) = true then
  lt (mput σ10 (wtg k0 21) (5 : Int32).toNatClampNeg (σ10 k0 43)) fun σ12 =>
  if inb (6 : Int32) (wln (wtg k0 21)) = true then
  lt (mput σ12 (wtg k0 21) (6 : Int32).toNatClampNeg (σ12 k0 38)) fun σ14 =>
  if inb (7 : Int32) (wln (wtg k0 21)) = true then
  lt (mput σ14 (wtg k0 21) (7 : Int32).toNatClampNeg (σ14 k0 39)) fun σ16 =>
  if inb (8 : Int32) (wln (wtg k0 21)) = true then
  lt (mput σ16 (wtg k0 21) (8 : Int32).toNatClampNeg (σ16 k0 40)) fun σ18 =>
  if inb (9 : Int32) (wln (wtg k0 21)) = true then
  lt (mput σ18 (wtg k0 21) (9 : Int32).toNatClampNeg (σ18 k0 41)) fun σ20 =>
  (L_RM_keep_106 k0 9999 (0 : Int32) σ20).bind fun q25 =>
  (L_RM_keep_133 k0 9999 (0 : Int32) q25.2).bind fun q30 =>
  (L_RM_keep_160 k0 9999 (0 : Int32) q30.2).bind fun q35 =>
  (L_RM_keep_185 k0 9999 (0 : Int32) q35.2).bind fun q43 =>
  (L_RM_keep_223 k0 9999 (0 : Int32) q43.2).bind fun q48 =>
  some (q48.2)
  else none
  else none
  else none
  else none
  else none
  else none
  else none
  else none
  else none
  else none
set_option maxHeartbeats 4000000 in
set_option maxRecDepth 100000 in
theorem wL_RM_keep_106 {F : Fx} (C : Ctx F prog_13_method_53_code 2 "LineFramesModel" none 0 0) {cv : Option (Int32 × Mem) → Option Rs} (h0 : cv none = none) (r0 : Nat) (hr0 : Is r0 11) (hex : ∀ q : Int32 × Mem, J F 2 cv (some q) q.2 131 [(0, .ref (fad F r0)), (1, .int q.1)] []) : ∀ (n : Nat) (a1 : Int32) (σ : Mem), J F 2 cv (L_RM_keep_106 r0 n a1 σ) σ 106 [(0, .ref (fad F r0)), (1, .int a1)] [] := by
  intro n
  induction n with
  | zero => intro a1 σ hE; rw [L_RM_keep_106, h0] at hE; cases hE
  | succ n ih =>
    intro a1 σ
    rw [L_RM_keep_106]
    refine j_iload_n C d_RM_keep_106 1 rfl ?_
    refine j_sipush (v := (576 : Int32)) C d_RM_keep_107 (by decide) ?_
    refine j_icmp_ge (tgt := 131) C d_RM_keep_110 (by decide) (fun c21 => ?_) (fun c21 => ?_)
    · exact hex (a1, σ)
    · refine j_aload_n C d_RM_keep_113 0 rfl ?_
      refine j_getR C hr0 fl_RM_38 rfl d_RM_keep_114 ?_
      refine j_iload_n C d_RM_keep_117 1 rfl ?_
      refine j_aload_n C d_RM_keep_118 0 rfl ?_
      refine j_getR C hr0 fl_RM_56 rfl d_RM_keep_119 ?_
      refine j_iload_n C d_RM_keep_122 1 rfl ?_
      refine j_need (by exact h0) (fun g22 => ?_)
      refine j_iald C (tg_11_44 _ hr0) (inb_in g22) d_RM_keep_123 ?_
      refine j_need (by exact h0) (fun g23 => ?_)
      refine j_iast C (tg_11_22 _ hr0) (inb_in g23) d_RM_keep_124 (fun σ24 => ?_)
      refine j_iinc (v := (a1 + (1 : Int32))) (lv9 := [(0, .ref (fad F r0)), (1, .int (a1 + (1 : Int32)))]) C d_RM_keep_125 1 rfl rfl rfl rfl (by decide) ?_
      refine j_goto (tgt := 106) C d_RM_keep_128 (by decide) ?_
      exact ih (a1 + (1 : Int32)) σ24
set_option maxHeartbeats 4000000 in
set_option maxRecDepth 100000 in
theorem wL_RM_keep_133 {F : Fx} (C : Ctx F prog_13_method_53_code 2 "LineFramesModel" none 0 0) {cv : Option (Int32 × Mem) → Option Rs} (h0 : cv none = none) (r0 : Nat) (hr0 : Is r0 11) (hex : ∀ q : Int32 × Mem, J F 2 cv (some q) q.2 158 [(0, .ref (fad F r0)), (1, .int q.1)] []) : ∀ (n : Nat) (a1 : Int32) (σ : Mem), J F 2 cv (L_RM_keep_133 r0 n a1 σ) σ 133 [(0, .ref (fad F r0)), (1, .int a1)] [] := by
  intro n
  induction n with
  | zero => intro a1 σ hE; rw [L_RM_keep_133, h0] at hE; cases hE
  | succ n ih =>
    intro a1 σ
    rw [L_RM_keep_133]
    refine j_iload_n C d_RM_keep_133 1 rfl ?_
    refine j_sipush (v := (1024 : Int32)) C d_RM_keep_134 (by decide) ?_
    refine j_icmp_ge (tgt := 158) C d_RM_keep_137 (by decide) (fun c26 => ?_) (fun c26 => ?_)
    · exact hex (a1, σ)
    · refine j_aload_n C d_RM_keep_140 0 rfl ?_
      refine j_getR C hr0 fl_RM_44 rfl d_RM_keep_141 ?_
      refine j_iload_n C d_RM_keep_144 1 rfl ?_
      refine j_aload_n C d_RM_keep_145 0 rfl ?_
      refine j_getR C hr0 fl_RM_62 rfl d_RM_keep_146 ?_
      refine j_iload_n C d_RM_keep_149 1 rfl ?_
      refine j_need (by exact h0) (fun g27 => ?_)
      refine j_iald C (tg_11_46 _ hr0) (inb_in g27) d_RM_keep_150 ?_
      refine j_need (by exact h0) (fun g28 => ?_)
      refine j_iast C (tg_11_24 _ hr0) (inb_in g28) d_RM_keep_151 (fun σ29 => ?_)
      refine j_iinc (v := (a1 + (1 : Int32))) (lv9 := [(0, .ref (fad F r0)), (1, .int (a1 + (1 : Int32)))]) C d_RM_keep_152 1 rfl rfl rfl rfl (by decide) ?_
      refine j_goto (tgt := 133) C d_RM_keep_155 (by decide) ?_
      exact ih (a1 + (1 : Int32)) σ29
set_option maxHeartbeats 4000000 in
set_option maxRecDepth 100000 in
theorem wL_RM_keep_160 {F : Fx} (C : Ctx F prog_13_method_53_code 2 "LineFramesModel" none 0 0) {cv : Option (Int32 × Mem) → Option Rs} (h0 : cv none = none) (r0 : Nat) (hr0 : Is r0 11) (hex : ∀ q : Int32 × Mem, J F 2 cv (some q) q.2 183 [(0, .ref (fad F r0)), (1, .int q.1)] []) : ∀ (n : Nat) (a1 : Int32) (σ : Mem), J F 2 cv (L_RM_keep_160 r0 n a1 σ) σ 160 [(0, .ref (fad F r0)), (1, .int a1)] [] := by
  intro n
  induction n with
  | zero => intro a1 σ hE; rw [L_RM_keep_160, h0] at hE; cases hE
  | succ n ih =>
    intro a1 σ
    rw [L_RM_keep_160]
    refine j_iload_n C d_RM_keep_160 1 rfl ?_
    refine j_iconst (v := (4 : Int32)) C d_RM_keep_161 (by decide) ?_
    refine j_icmp_ge (tgt := 183) C d_RM_keep_162 (by decide) (fun c31 => ?_) (fun c31 => ?_)
    · exact hex (a1, σ)
    · refine j_aload_n C d_RM_keep_165 0 rfl ?_
      refine j_getR C hr0 fl_RM_41 rfl d_RM_keep_166 ?_
      refine j_iload_n C d_RM_keep_169 1 rfl ?_
      refine j_aload_n C d_RM_keep_170 0 rfl ?_
      refine j_getR C hr0 fl_RM_59 rfl d_RM_keep_171 ?_
      refine j_iload_n C d_RM_keep_174 1 rfl ?_
      refine j_need (by exact h0) (fun g32 => ?_)
      refine j_zald C (tg_11_45 _ hr0) (inb_in g32) d_RM_keep_175 ?_
      refine j_need (by exact h0) (fun g33 => ?_)
      refine j_zast C (tg_11_23 _ hr0) (inb_in g33) d_RM_keep_176 (fun σ34 => ?_)
      refine j_iinc (v := (a1 + (1 : Int32))) (lv9 := [(0, .ref (fad F r0)), (1, .int (a1 + (1 : Int32)))]) C d_RM_keep_177 1 rfl rfl rfl rfl (by decide) ?_
      refine j_goto (tgt := 160) C d_RM_keep_180 (by decide) ?_
      exact ih (a1 + (1 : Int32)) σ34
set_option maxHeartbeats 4000000 in
set_option maxRecDepth 100000 in
theorem wL_RM_keep_185 {F : Fx} (C : Ctx F prog_13_method_53_code 2 "LineFramesModel" none 0 0) {cv : Option (Int32 × Mem) → Option Rs} (h0 : cv none = none) (r0 : Nat) (hr0 : Is r0 11) (hex : ∀ q : Int32 × Mem, J F 2 cv (some q) q.2 221 [(0, .ref (fad F r0)), (1, .int q.1)] []) : ∀ (n : Nat) (a1 : Int32) (σ : Mem), J F 2 cv (L_RM_keep_185 r0 n a1 σ) σ 185 [(0, .ref (fad F r0)), (1, .int a1)] [] := by
  intro n
  induction n with
  | zero => intro a1 σ hE; rw [L_RM_keep_185, h0] at hE; cases hE
  | succ n ih =>
    intro a1 σ
    rw [L_RM_keep_185]
    refine j_iload_n C d_RM_keep_185 1 rfl ?_
    refine j_bipush (v := (6 : Int32)) C d_RM_keep_186 (by decide) ?_
    refine j_icmp_ge (tgt := 221) C d_RM_keep_188 (by decide) (fun c36 => ?_) (fun c36 => ?_)
    · exact hex (a1, σ)
    · refine j_aload_n C d_RM_keep_191 0 rfl ?_
      refine j_getR C hr0 fl_RM_47 rfl d_RM_keep_192 ?_
      refine j_iload_n C d_RM_keep_195 1 rfl ?_
      refine j_aload_n C d_RM_keep_196 0 rfl ?_
      refine j_getR C hr0 fl_RM_65 rfl d_RM_keep_197 ?_
      refine j_iload_n C d_RM_keep_200 1 rfl ?_
      refine j_need (by exact h0) (fun g37 => ?_)
      refine j_iald C (tg_11_47 _ hr0) (inb_in g37) d_RM_keep_201 ?_
      refine j_need (by exact h0) (fun g38 => ?_)
      refine j_iast C (tg_11_25 _ hr0) (inb_in g38) d_RM_keep_202 (fun σ39 => ?_)
      refine j_aload_n C d_RM_keep_203 0 rfl ?_
      refine j_getR C hr0 fl_RM_50 rfl d_RM_keep_204 ?_
      refine j_iload_n C d_RM_keep_207 1 rfl ?_
      refine j_aload_n C d_RM_keep_208 0 rfl ?_
      refine j_getR C hr0 fl_RM_68 rfl d_RM_keep_209 ?_
      refine j_iload_n C d_RM_keep_212 1 rfl ?_
      refine j_need (by exact h0) (fun g40 => ?_)
      refine j_iald C (tg_11_48 _ hr0) (inb_in g40) d_RM_keep_213 ?_
      refine j_need (by exact h0) (fun g41 => ?_)
      refine j_iast C (tg_11_26 _ hr0) (inb_in g41) d_RM_keep_214 (fun σ42 => ?_)
      refine j_iinc (v := (a1 + (1 : Int32))) (lv9 := [(0, .ref (fad F r0)), (1, .int (a1 + (1 : Int32)))]) C d_RM_keep_215 1 rfl rfl rfl rfl (by decide) ?_
      refine j_goto (tgt := 185) C d_RM_keep_218 (by decide) ?_
      exact ih (a1 + (1 : Int32)) σ42
set_option maxHeartbeats 4000000 in
set_option maxRecDepth 100000 in
theorem wL_RM_keep_223 {F : Fx} (C : Ctx F prog_13_method_53_code 2 "LineFramesModel" none 0 0) {cv : Option (Int32 × Mem) → Option Rs} (h0 : cv none = none) (r0 : Nat) (hr0 : Is r0 11) (hex : ∀ q : Int32 × Mem, J F 2 cv (some q) q.2 248 [(0, .ref (fad F r0)), (1, .int q.1)] []) : ∀ (n : Nat) (a1 : Int32) (σ : Mem), J F 2 cv (L_RM_keep_223 r0 n a1 σ) σ 223 [(0, .ref (fad F r0)), (1, .int a1)] [] := by
  intro n
  induction n with
  | zero => intro a1 σ hE; rw [L_RM_keep_223, h0] at hE; cases hE
  | succ n ih =>
    intro a1 σ
    rw [L_RM_keep_223]
    refine j_iload_n C d_RM_keep_223 1 rfl ?_
    refine j_sipush (v := (180 : Int32)) C d_RM_keep_224 (by decide) ?_
    refine j_icmp_ge (tgt := 248) C d_RM_keep_227 (by decide) (fun c44 => ?_) (fun c44 => ?_)
    · exact hex (a1, σ)
    · refine j_aload_n C d_RM_keep_230 0 rfl ?_
      refine j_getR C hr0 fl_RM_53 rfl d_RM_keep_231 ?_
      refine j_iload_n C d_RM_keep_234 1 rfl ?_
      refine j_aload_n C d_RM_keep_235 0 rfl ?_
      refine j_getR C hr0 fl_RM_71 rfl d_RM_keep_236 ?_
      refine j_iload_n C d_RM_keep_239 1 rfl ?_
      refine j_need (by exact h0) (fun g45 => ?_)
      refine j_iald C (tg_11_49 _ hr0) (inb_in g45) d_RM_keep_240 ?_
      refine j_need (by exact h0) (fun g46 => ?_)
      refine j_iast C (tg_11_27 _ hr0) (inb_in g46) d_RM_keep_241 (fun σ47 => ?_)
      refine j_iinc (v := (a1 + (1 : Int32))) (lv9 := [(0, .ref (fad F r0)), (1, .int (a1 + (1 : Int32)))]) C d_RM_keep_242 1 rfl rfl rfl rfl (by decide) ?_
      refine j_goto (tgt := 223) C d_RM_keep_245 (by decide) ?_
      exact ih (a1 + (1 : Int32)) σ47
set_option maxHeartbeats 4000000 in
set_option maxRecDepth 100000 in
theorem w_RM_keep {F : Fx} (C : Ctx F prog_13_method_53_code 2 "LineFramesModel" none 0 0) {k0 : Nat} (h0k : Is k0 11) (σ : Mem) : J F 2 (cvO cvM) (f_RM_keep k0 σ) σ 0 [(0, .ref (fad F k0))] [] := by
  unfold f_RM_keep
  refine j_aload_n C d_RM_keep_0 0 rfl ?_
  refine j_getR C h0k fl_RM_35 rfl d_RM_keep_1 ?_
  refine j_iconst (v := (0 : Int32)) C d_RM_keep_4 (by decide) ?_
  refine j_aload_n C d_RM_keep_5 0 rfl ?_
  refine j_getI C h0k fl_RM_242 rfl d_RM_keep_6 ?_
  refine j_need rfl (fun g1 => ?_)
  refine j_iast C (tg_11_21 _ h0k) (inb_in g1) d_RM_keep_9 (fun σ2 => ?_)
  refine j_aload_n C d_RM_keep_10 0 rfl ?_
  refine j_getR C h0k fl_RM_35 rfl d_RM_keep_11 ?_
  refine j_iconst (v := (1 : Int32)) C d_RM_keep_14 (by decide) ?_
  refine j_aload_n C d_RM_keep_15 0 rfl ?_
  refine j_getI C h0k fl_RM_239 rfl d_RM_keep_16 ?_
  refine j_need rfl (fun g3 => ?_)
  refine j_iast C (tg_11_21 _ h0k) (inb_in g3) d_RM_keep_19 (fun σ4 => ?_)
  refine j_aload_n C d_RM_keep_20 0 rfl ?_
  refine j_getR C h0k fl_RM_35 rfl d_RM_keep_21 ?_
  refine j_iconst (v := (2 : Int32)) C d_RM_keep_24 (by decide) ?_
  refine j_aload_n C d_RM_keep_25 0 rfl ?_
  refine j_getI C h0k fl_RM_236 rfl d_RM_keep_26 ?_
  refine j_need rfl (fun g5 => ?_)
  refine j_iast C (tg_11_21 _ h0k) (inb_in g5) d_RM_keep_29 (fun σ6 => ?_)
  refine j_aload_n C d_RM_keep_30 0 rfl ?_
  refine j_getR C h0k fl_RM_35 rfl d_RM_keep_31 ?_
  refine j_iconst (v := (3 : Int32)) C d_RM_keep_34 (by decide) ?_
  refine j_aload_n C d_RM_keep_35 0 rfl ?_
  refine j_getI C h0k fl_RM_227 rfl d_RM_keep_36 ?_
  refine j_need rfl (fun g7 => ?_)
  refine j_iast C (tg_11_21 _ h0k) (inb_in g7) d_RM_keep_39 (fun σ8 => ?_)
  refine j_aload_n C d_RM_keep_40 0 rfl ?_
  refine j_getR C h0k fl_RM_35 rfl d_RM_keep_41 ?_
  refine j_iconst (v := (4 : Int32)) C d_RM_keep_44 (by decide) ?_
  refine j_aload_n C d_RM_keep_45 0 rfl ?_
  refine j_getI C h0k fl_RM_254 rfl d_RM_keep_46 ?_
  refine j_need rfl (fun g9 => ?_)
  refine j_iast C (tg_11_21 _ h0k) (inb_in g9) d_RM_keep_49 (fun σ10 => ?_)
  refine j_aload_n C d_RM_keep_50 0 rfl ?_
  refine j_getR C h0k fl_RM_35 rfl d_RM_keep_51 ?_
  refine j_iconst (v := (5 : Int32)) C d_RM_keep_54 (by decide) ?_
  refine j_aload_n C d_RM_keep_55 0 rfl ?_
  refine j_getI C h0k fl_RM_257 rfl d_RM_keep_56 ?_
  refine j_need rfl (fun g11 => ?_)
  refine j_iast C (tg_11_21 _ h0k) (inb_in g11) d_RM_keep_59 (fun σ12 => ?_)
  refine j_aload_n C d_RM_keep_60 0 rfl ?_
  refine j_getR C h0k fl_RM_35 rfl d_RM_keep_61 ?_
  refine j_bipush (v := (6 : Int32)) C d_RM_keep_64 (by decide) ?_
  refine j_aload_n C d_RM_keep_66 0 rfl ?_
  refine j_getI C h0k fl_RM_245 rfl d_RM_keep_67 ?_
  refine j_need rfl (fun g13 => ?_)
  refine j_iast C (tg_11_21 _ h0k) (inb_in g13) d_RM_keep_70 (fun σ14 => ?_)
  refine j_aload_n C d_RM_keep_71 0 rfl ?_
  refine j_getR C h0k fl_RM_35 rfl d_RM_keep_72 ?_
  refine j_bipush (v := (7 : Int32)) C d_RM_keep_75 (by decide) ?_
  refine j_aload_n C d_RM_keep_77 0 rfl ?_
  refine j_getI C h0k fl_RM_248 rfl d_RM_keep_78 ?_
  refine j_need rfl (fun g15 => ?_)
  refine j_iast C (tg_11_21 _ h0k) (inb_in g15) d_RM_keep_81 (fun σ16 => ?_)
  refine j_aload_n C d_RM_keep_82 0 rfl ?_
  refine j_getR C h0k fl_RM_35 rfl d_RM_keep_83 ?_
  refine j_bipush (v := (8 : Int32)) C d_RM_keep_86 (by decide) ?_
  refine j_aload_n C d_RM_keep_88 0 rfl ?_
  refine j_getI C h0k fl_RM_251 rfl d_RM_keep_89 ?_
  refine j_need rfl (fun g17 => ?_)
  refine j_iast C (tg_11_21 _ h0k) (inb_in g17) d_RM_keep_92 (fun σ18 => ?_)
  refine j_aload_n C d_RM_keep_93 0 rfl ?_
  refine j_getR C h0k fl_RM_35 rfl d_RM_keep_94 ?_
  refine j_bipush (v := (9 : Int32)) C d_RM_keep_97 (by decide) ?_
  refine j_aload_n C d_RM_keep_99 0 rfl ?_
  refine j_getI C h0k fl_RM_233 rfl d_RM_keep_100 ?_
  refine j_need rfl (fun g19 => ?_)
  refine j_iast C (tg_11_21 _ h0k) (inb_in g19) d_RM_keep_103 (fun σ20 => ?_)
  refine j_iconst (v := (0 : Int32)) C d_RM_keep_104 (by decide) ?_
  refine j_istore_n (lv9 := [(0, .ref (fad F k0)), (1, .int (0 : Int32))]) C d_RM_keep_105 rfl rfl (by decide) ?_
  refine j_loop (wL_RM_keep_106 C rfl k0 h0k (fun q25 => j_some ?_) 9999 (0 : Int32) σ20)
  refine j_iconst (v := (0 : Int32)) C d_RM_keep_131 (by decide) ?_
  refine j_istore_n (lv9 := [(0, .ref (fad F k0)), (1, .int (0 : Int32))]) C d_RM_keep_132 rfl rfl (by decide) ?_
  refine j_loop (wL_RM_keep_133 C rfl k0 h0k (fun q30 => j_some ?_) 9999 (0 : Int32) q25.2)
  refine j_iconst (v := (0 : Int32)) C d_RM_keep_158 (by decide) ?_
  refine j_istore_n (lv9 := [(0, .ref (fad F k0)), (1, .int (0 : Int32))]) C d_RM_keep_159 rfl rfl (by decide) ?_
  refine j_loop (wL_RM_keep_160 C rfl k0 h0k (fun q35 => j_some ?_) 9999 (0 : Int32) q30.2)
  refine j_iconst (v := (0 : Int32)) C d_RM_keep_183 (by decide) ?_
  refine j_istore_n (lv9 := [(0, .ref (fad F k0)), (1, .int (0 : Int32))]) C d_RM_keep_184 rfl rfl (by decide) ?_
  refine j_loop (wL_RM_keep_185 C rfl k0 h0k (fun q43 => j_some ?_) 9999 (0 : Int32) q35.2)
  refine j_iconst (v := (0 : Int32)) C d_RM_keep_221 (by decide) ?_
  refine j_istore_n (lv9 := [(0, .ref (fad F k0)), (1, .int (0 : Int32))]) C d_RM_keep_222 rfl rfl (by decide) ?_
  refine j_loop (wL_RM_keep_223 C rfl k0 h0k (fun q48 => j_some ?_) 9999 (0 : Int32) q43.2)
  exact j_vret C (fun ρ h => leaf_eq h) d_RM_keep_248
theorem c_RM_keep {l : Launch} {D : va_G} {G : GC} {ad : Nat → Nat} {k0 : Nat} (h0k : Is k0 11) (σ : Mem) {q : Mem} (hq : f_RM_keep k0 σ = some q) : Ctr l D G ad ⟨"LineFramesModel", "keep", "()V"⟩ prog_13_method_53_code 2 none 0 0 [.ref (ad k0)] σ (.inl none, q) := ctr_J (cv := (cvO cvM)) (E := f_RM_keep k0 σ) (by decide +kernel) (Nat.le_of_ble_eq_true rfl) (by rw [hq]; rfl) (fun F h C => by subst h; exact w_RM_keep C h0k σ)
/-! LineFramesModel read ()I -/
theorem d_RM_read_0 : decode prog_13_method_54_code 0 = .ok (.aload_n 0, 1) := by decide +kernel
theorem d_RM_read_1 : decode prog_13_method_54_code 1 = .ok (.iconst 0, 1) := by decide +kernel
theorem d_RM_read_2 : decode prog_13_method_54_code 2 = .ok (.putfield 90, 3) := by decide +kernel
theorem d_RM_read_5 : decode prog_13_method_54_code 5 = .ok (.aload_n 0, 1) := by decide +kernel
theorem d_RM_read_6 : decode prog_13_method_54_code 6 = .ok (.invokevirtual 321, 3) := by decide +kernel
theorem d_RM_read_9 : decode prog_13_method_54_code 9 = .ok (.iconst 0, 1) := by decide +kernel
theorem d_RM_read_10 : decode prog_13_method_54_code 10 = .ok (.istore_n 1, 1) := by decide +kernel
theorem d_RM_read_11 : decode prog_13_method_54_code 11 = .ok (.aload_n 0, 1) := by decide +kernel
theorem d_RM_read_12 : decode prog_13_method_54_code 12 = .ok (.getfield 210, 3) := by decide +kernel
theorem d_RM_read_15 : decode prog_13_method_54_code 15 = .ok (.ifCond .ne 75, 3) := by decide +kernel
theorem d_RM_read_18 : decode prog_13_method_54_code 18 = .ok (.iload_n 1, 1) := by decide +kernel
theorem d_RM_read_19 : decode prog_13_method_54_code 19 = .ok (.ifCond .ne 71, 3) := by decide +kernel
theorem d_RM_read_22 : decode prog_13_method_54_code 22 = .ok (.aload_n 0, 1) := by decide +kernel
theorem d_RM_read_23 : decode prog_13_method_54_code 23 = .ok (.invokevirtual 324, 3) := by decide +kernel
theorem d_RM_read_26 : decode prog_13_method_54_code 26 = .ok (.ifCond .eq (-15), 3) := by decide +kernel
theorem d_RM_read_29 : decode prog_13_method_54_code 29 = .ok (.aload_n 0, 1) := by decide +kernel
theorem d_RM_read_30 : decode prog_13_method_54_code 30 = .ok (.getfield 32, 3) := by decide +kernel
theorem d_RM_read_33 : decode prog_13_method_54_code 33 = .ok (.aload_n 0, 1) := by decide +kernel
theorem d_RM_read_34 : decode prog_13_method_54_code 34 = .ok (.getfield 216, 3) := by decide +kernel
theorem d_RM_read_37 : decode prog_13_method_54_code 37 = .ok (.iconst 1, 1) := by decide +kernel
theorem d_RM_read_38 : decode prog_13_method_54_code 38 = .ok (.iadd, 1) := by decide +kernel
theorem d_RM_read_39 : decode prog_13_method_54_code 39 = .ok (.iaload, 1) := by decide +kernel
theorem d_RM_read_40 : decode prog_13_method_54_code 40 = .ok (.istore_n 2, 1) := by decide +kernel
theorem d_RM_read_41 : decode prog_13_method_54_code 41 = .ok (.iload_n 2, 1) := by decide +kernel
theorem d_RM_read_42 : decode prog_13_method_54_code 42 = .ok (.sipush 216, 3) := by decide +kernel
theorem d_RM_read_45 : decode prog_13_method_54_code 45 = .ok (.if_icmp .ne 16, 3) := by decide +kernel
theorem d_RM_read_48 : decode prog_13_method_54_code 48 = .ok (.aload_n 0, 1) := by decide +kernel
theorem d_RM_read_49 : decode prog_13_method_54_code 49 = .ok (.dup, 1) := by decide +kernel
theorem d_RM_read_50 : decode prog_13_method_54_code 50 = .ok (.getfield 216, 3) := by decide +kernel
theorem d_RM_read_53 : decode prog_13_method_54_code 53 = .ok (.iconst 2, 1) := by decide +kernel
theorem d_RM_read_54 : decode prog_13_method_54_code 54 = .ok (.iadd, 1) := by decide +kernel
theorem d_RM_read_55 : decode prog_13_method_54_code 55 = .ok (.putfield 216, 3) := by decide +kernel
theorem d_RM_read_58 : decode prog_13_method_54_code 58 = .ok (.goto 29, 3) := by decide +kernel
theorem d_RM_read_61 : decode prog_13_method_54_code 61 = .ok (.iload_n 2, 1) := by decide +kernel
theorem d_RM_read_62 : decode prog_13_method_54_code 62 = .ok (.sipush 217, 3) := by decide +kernel
theorem d_RM_read_65 : decode prog_13_method_54_code 65 = .ok (.if_icmp .ne 18, 3) := by decide +kernel
theorem d_RM_read_68 : decode prog_13_method_54_code 68 = .ok (.aload_n 0, 1) := by decide +kernel
theorem d_RM_read_69 : decode prog_13_method_54_code 69 = .ok (.dup, 1) := by decide +kernel
theorem d_RM_read_70 : decode prog_13_method_54_code 70 = .ok (.getfield 216, 3) := by decide +kernel
theorem d_RM_read_73 : decode prog_13_method_54_code 73 = .ok (.iconst 2, 1) := by decide +kernel
theorem d_RM_read_74 : decode prog_13_method_54_code 74 = .ok (.iadd, 1) := by decide +kernel
theorem d_RM_read_75 : decode prog_13_method_54_code 75 = .ok (.putfield 216, 3) := by decide +kernel
theorem d_RM_read_78 : decode prog_13_method_54_code 78 = .ok (.iconst 1, 1) := by decide +kernel
theorem d_RM_read_79 : decode prog_13_method_54_code 79 = .ok (.istore_n 1, 1) := by decide +kernel
theorem d_RM_read_80 : decode prog_13_method_54_code 80 = .ok (.goto 7, 3) := by decide +kernel
theorem d_RM_read_83 : decode prog_13_method_54_code 83 = .ok (.aload_n 0, 1) := by decide +kernel
theorem d_RM_read_84 : decode prog_13_method_54_code 84 = .ok (.invokevirtual 327, 3) := by decide +kernel
theorem d_RM_read_87 : decode prog_13_method_54_code 87 = .ok (.goto (-76), 3) := by decide +kernel
theorem d_RM_read_90 : decode prog_13_method_54_code 90 = .ok (.aload_n 0, 1) := by decide +kernel
theorem d_RM_read_91 : decode prog_13_method_54_code 91 = .ok (.getfield 210, 3) := by decide +kernel
theorem d_RM_read_94 : decode prog_13_method_54_code 94 = .ok (.ifCond .ne 25, 3) := by decide +kernel
theorem d_RM_read_97 : decode prog_13_method_54_code 97 = .ok (.aload_n 0, 1) := by decide +kernel
theorem d_RM_read_98 : decode prog_13_method_54_code 98 = .ok (.getfield 216, 3) := by decide +kernel
theorem d_RM_read_101 : decode prog_13_method_54_code 101 = .ok (.aload_n 0, 1) := by decide +kernel
theorem d_RM_read_102 : decode prog_13_method_54_code 102 = .ok (.getfield 207, 3) := by decide +kernel
theorem d_RM_read_105 : decode prog_13_method_54_code 105 = .ok (.if_icmp .ge 14, 3) := by decide +kernel
theorem d_RM_read_108 : decode prog_13_method_54_code 108 = .ok (.aload_n 0, 1) := by decide +kernel
theorem d_RM_read_109 : decode prog_13_method_54_code 109 = .ok (.bipush 9, 2) := by decide +kernel
theorem d_RM_read_111 : decode prog_13_method_54_code 111 = .ok (.aload_n 0, 1) := by decide +kernel
theorem d_RM_read_112 : decode prog_13_method_54_code 112 = .ok (.getfield 216, 3) := by decide +kernel
theorem d_RM_read_115 : decode prog_13_method_54_code 115 = .ok (.invokevirtual 219, 3) := by decide +kernel
theorem d_RM_read_118 : decode prog_13_method_54_code 118 = .ok (.istore_n 2, 1) := by decide +kernel
theorem d_RM_read_119 : decode prog_13_method_54_code 119 = .ok (.aload_n 0, 1) := by decide +kernel
theorem d_RM_read_120 : decode prog_13_method_54_code 120 = .ok (.aload_n 0, 1) := by decide +kernel
theorem d_RM_read_121 : decode prog_13_method_54_code 121 = .ok (.getfield 210, 3) := by decide +kernel
theorem d_RM_read_124 : decode prog_13_method_54_code 124 = .ok (.ifCond .ne 7, 3) := by decide +kernel
theorem d_RM_read_127 : decode prog_13_method_54_code 127 = .ok (.iconst 1, 1) := by decide +kernel
theorem d_RM_read_128 : decode prog_13_method_54_code 128 = .ok (.goto 4, 3) := by decide +kernel
theorem d_RM_read_131 : decode prog_13_method_54_code 131 = .ok (.iconst 0, 1) := by decide +kernel
theorem d_RM_read_132 : decode prog_13_method_54_code 132 = .ok (.putfield 330, 3) := by decide +kernel
theorem d_RM_read_135 : decode prog_13_method_54_code 135 = .ok (.aload_n 0, 1) := by decide +kernel
theorem d_RM_read_136 : decode prog_13_method_54_code 136 = .ok (.getfield 330, 3) := by decide +kernel
theorem d_RM_read_139 : decode prog_13_method_54_code 139 = .ok (.ifCond .ne 10, 3) := by decide +kernel
theorem d_RM_read_142 : decode prog_13_method_54_code 142 = .ok (.iconst (-1), 1) := by decide +kernel
theorem d_RM_read_143 : decode prog_13_method_54_code 143 = .ok (.aload_n 0, 1) := by decide +kernel
theorem d_RM_read_144 : decode prog_13_method_54_code 144 = .ok (.getfield 213, 3) := by decide +kernel
theorem d_RM_read_147 : decode prog_13_method_54_code 147 = .ok (.isub, 1) := by decide +kernel
theorem d_RM_read_148 : decode prog_13_method_54_code 148 = .ok (.ireturn, 1) := by decide +kernel
theorem d_RM_read_149 : decode prog_13_method_54_code 149 = .ok (.aload_n 0, 1) := by decide +kernel
theorem d_RM_read_150 : decode prog_13_method_54_code 150 = .ok (.invokevirtual 333, 3) := by decide +kernel
theorem d_RM_read_153 : decode prog_13_method_54_code 153 = .ok (.aload_n 0, 1) := by decide +kernel
theorem d_RM_read_154 : decode prog_13_method_54_code 154 = .ok (.getfield 227, 3) := by decide +kernel
theorem d_RM_read_157 : decode prog_13_method_54_code 157 = .ok (.ireturn, 1) := by decide +kernel
def L_RM_read_11 (r0 : Nat) : Nat → Int32 → Mem →  Option (Int32 × Mem)
  | 0, _, _ => none
  | n + 1, a1, σ =>
  if (σ r0 28) = 0 then
  if a1 = 0 then
  (f_RM_isMark r0 σ).bind fun q7 =>
  if q7.1 = 0 then
  L_RM_read_11 r0 n a1 q7.2
  else
  if inb ((q7.2 r0 32) + (1 : Int32)) (wln (wtg r0 18)) = true then
  lt (q7.2 (wtg r0 18) ((q7.2 r0 32) + (1 : Int32)).toNatClampNeg) fun v10 =>
  lt (fun (y16 : Int32) (σ17 : Mem) => 
  L_RM_read_11 r0 n y16 σ17) fun K18 =>
  if v10 = (216 : Int32) then
  lt (mput q7.2 r0 32 ((q7.2 r0 32) + (2 : Int32))) fun σ25 =>
  K18 a1 σ25
  else
  if v10 = (217 : Int32) then
  lt (mput q7.2 r0 32 ((q7.2 r0 32) + (2 : Int32))) fun σ24 =>
  K18 (1 : Int32) σ24
  else
  (f_RM_takeSegment r0 q7.2).bind fun σ23 =>
  K18 a1 σ23
  else none
  else
  some (a1, σ)
  else
  some (a1, σ)
def f_RM_read (k0 : Nat) (σ : Mem) : Option (Int32 × Mem) :=
  lt (mput σ k0 1 (0 : Int32)) fun σ1 =>
  (f_RM_clear k0 σ1).bind fun σ3 =>
  (L_RM_read_11 k0 9999 (0 : Int32) σ3).bind fun q26 =>
  lt (fun  (σ104 : Mem) => 
  lt (mput σ104 k0 20 (if (σ104 k0 28) = 0 then (1 : Int32) else (0 : Int32))) fun σ109 =>
  if (σ109 k0 20) = 0 then
  some (((-1 : Int32) - (σ109 k0 29)), σ109)
  else
  (f_RM_keep k0 σ109).bind fun σ112 =>
  some ((σ112 k0 37), σ112)) fun K105 =>
  if (q26.2 k0 28) = 0 then
  if (q26.2 k0 19) ≤ (q26.2 k0 32) then
  K105 q26.2
  else
  lt (f_RM_broken k0 (9 : Int32) (q26.2 k0 32) q26.2) fun q115 =>
  K105 q115.2
  else
  K105 q26.2
set_option maxHeartbeats 4000000 in
set_option maxRecDepth 100000 in
theorem wL_RM_read_11 {F : Fx} (C : Ctx F prog_13_method_54_code 3 "LineFramesModel" (some .int) 7 168) {cv : Option (Int32 × Mem) → Option Rs} (h0 : cv none = none) (r0 : Nat) (hr0 : Is r0 11) (hex : ∀ q : Int32 × Mem, J F 3 cv (some q) q.2 90 [(0, .ref (fad F r0)), (1, .int q.1)] []) : ∀ (n : Nat) (a1 : Int32) (σ : Mem), J F 3 cv (L_RM_read_11 r0 n a1 σ) σ 11 [(0, .ref (fad F r0)), (1, .int a1)] [] := by
  intro n
  induction n with
  | zero => intro a1 σ hE; rw [L_RM_read_11, h0] at hE; cases hE
  | succ n ih =>
    intro a1 σ
    rw [L_RM_read_11]
    refine j_aload_n C d_RM_read_11 0 rfl ?_
    refine j_getI C hr0 fl_RM_210 rfl d_RM_read_12 ?_
    refine j_if_ne (tgt := 90) C d_RM_read_15 (by decide) (fun c4 => ?_) (fun c4 => ?_)
    · exact hex (a1, σ)
    · refine j_iload_n C d_RM_read_18 1 rfl ?_
      refine j_if_ne (tgt := 90) C d_RM_read_19 (by decide) (fun c5 => ?_) (fun c5 => ?_)
      · exact hex (a1, σ)
      · refine j_aload_n C d_RM_read_22 0 rfl ?_
        refine j_bind (by exact h0) (fun q7 e6 => ?_)
        refine j_callVi C mv_RM_324 [] [] hr0 (c_RM_isMark hr0 σ e6) rfl rfl (by decide) (Nat.le_of_ble_eq_true rfl) d_RM_read_23 ?_
        refine j_if_eq (tgt := 11) C d_RM_read_26 (by decide) (fun c8 => ?_) (fun c8 => ?_)
        · exact ih a1 q7.2
        · refine j_aload_n C d_RM_read_29 0 rfl ?_
          refine j_getR C hr0 fl_RM_32 rfl d_RM_read_30 ?_
          refine j_aload_n C d_RM_read_33 0 rfl ?_
          refine j_getI C hr0 fl_RM_216 rfl d_RM_read_34 ?_
          refine j_iconst (v := (1 : Int32)) C d_RM_read_37 (by decide) ?_
          refine j_iadd C d_RM_read_38 ?_
          refine j_need (by exact h0) (fun g9 => ?_)
          refine j_iald C (tg_11_18 _ hr0) (inb_in g9) d_RM_read_39 ?_
          refine j_nm (fun v10 v10_e => ?_)
          refine j_istore_n (lv9 := [(0, .ref (fad F r0)), (1, .int a1), (2, .int v10)]) C d_RM_read_40 rfl rfl (by decide) ?_
          refine j_iload_n C d_RM_read_41 2 rfl ?_
          refine j_sipush (v := (216 : Int32)) C d_RM_read_42 (by decide) ?_
          refine j_join1m 87 (fun y16 _ => [(0, .ref (fad F r0)), (1, .int y16), (2, .int v10)]) (fun _ _ => []) (fun y16 σ17 => ?_) (fun K18 H19 => ?_)
          · refine j_goto (tgt := 11) C d_RM_read_87 (by decide) ?_
            refine j_sub (lv9 := [(0, .ref (fad F r0)), (1, .int y16)]) [0, 1] rfl ?_
            exact ih y16 σ17
          · refine j_icmp_ne (tgt := 61) C d_RM_read_45 (by decide) (fun c20 => ?_) (fun c20 => ?_)
            · refine j_iload_n C d_RM_read_61 2 rfl ?_
              refine j_sipush (v := (217 : Int32)) C d_RM_read_62 (by decide) ?_
              refine j_icmp_ne (tgt := 83) C d_RM_read_65 (by decide) (fun c21 => ?_) (fun c21 => ?_)
              · refine j_aload_n C d_RM_read_83 0 rfl ?_
                refine j_bind (by exact h0) (fun σ23 e22 => ?_)
                refine j_callVv C mv_RM_327 [] [] hr0 (c_RM_takeSegment hr0 q7.2 e22) rfl rfl (by decide) (Nat.le_of_ble_eq_true rfl) d_RM_read_84 ?_
                exact H19 a1 σ23
              · refine j_aload_n C d_RM_read_68 0 rfl ?_
                refine j_dup C d_RM_read_69 rfl ?_
                refine j_getI C hr0 fl_RM_216 rfl d_RM_read_70 ?_
                refine j_iconst (v := (2 : Int32)) C d_RM_read_73 (by decide) ?_
                refine j_iadd C d_RM_read_74 ?_
                refine j_put C hr0 fl_RM_216 fw_11_32 rfl rfl rfl d_RM_read_75 (fun σ24 => ?_)
                refine j_iconst (v := (1 : Int32)) C d_RM_read_78 (by decide) ?_
                refine j_istore_n (lv9 := [(0, .ref (fad F r0)), (1, .int (1 : Int32)), (2, .int v10)]) C d_RM_read_79 rfl rfl (by decide) ?_
                refine j_goto (tgt := 87) C d_RM_read_80 (by decide) ?_
                exact H19 (1 : Int32) σ24
            · refine j_aload_n C d_RM_read_48 0 rfl ?_
              refine j_dup C d_RM_read_49 rfl ?_
              refine j_getI C hr0 fl_RM_216 rfl d_RM_read_50 ?_
              refine j_iconst (v := (2 : Int32)) C d_RM_read_53 (by decide) ?_
              refine j_iadd C d_RM_read_54 ?_
              refine j_put C hr0 fl_RM_216 fw_11_32 rfl rfl rfl d_RM_read_55 (fun σ25 => ?_)
              refine j_goto (tgt := 87) C d_RM_read_58 (by decide) ?_
              exact H19 a1 σ25
set_option maxHeartbeats 4000000 in
set_option maxRecDepth 100000 in
theorem w_RM_read {F : Fx} (C : Ctx F prog_13_method_54_code 3 "LineFramesModel" (some .int) 7 168) {k0 : Nat} (h0k : Is k0 11) (σ : Mem) : J F 3 (cvO cvIM) (f_RM_read k0 σ) σ 0 [(0, .ref (fad F k0))] [] := by
  unfold f_RM_read
  refine j_aload_n C d_RM_read_0 0 rfl ?_
  refine j_iconst (v := (0 : Int32)) C d_RM_read_1 (by decide) ?_
  refine j_put C h0k fl_RM_90 fw_11_1 rfl rfl rfl d_RM_read_2 (fun σ1 => ?_)
  refine j_aload_n C d_RM_read_5 0 rfl ?_
  refine j_bind rfl (fun σ3 e2 => ?_)
  refine j_callVv C mv_RM_321 [] [] h0k (c_RM_clear h0k σ1 e2) rfl rfl (by decide) (Nat.le_of_ble_eq_true rfl) d_RM_read_6 ?_
  refine j_iconst (v := (0 : Int32)) C d_RM_read_9 (by decide) ?_
  refine j_istore_n (lv9 := [(0, .ref (fad F k0)), (1, .int (0 : Int32))]) C d_RM_read_10 rfl rfl (by decide) ?_
  refine j_loop (wL_RM_read_11 C rfl k0 h0k (fun q26 => j_some ?_) 9999 (0 : Int32) σ3)
  refine j_aload_n C d_RM_read_90 0 rfl ?_
  refine j_getI C h0k fl_RM_210 rfl d_RM_read_91 ?_
  refine j_join0m 119 (fun _ => [(0, .ref (fad F k0)), (1, .int q26.1)]) (fun _ => []) (fun σ104 => ?_) (fun K105 H106 => ?_)
  · refine j_aload_n C d_RM_read_119 0 rfl ?_
    refine j_aload_n C d_RM_read_120 0 rfl ?_
    refine j_getI C h0k fl_RM_210 rfl d_RM_read_121 ?_
    refine d_if_ne (a := (1 : Int32)) (b := (0 : Int32)) (jp := 132) (tgt := 131) C d_RM_read_124 (by decide) (fun c107 k108 => ?_) (fun c107 k108 => ?_) ?_
    · refine j_iconst (v := (0 : Int32)) C d_RM_read_131 (by decide) ?_
      exact k108
    · refine j_iconst (v := (1 : Int32)) C d_RM_read_127 (by decide) ?_
      refine j_goto (tgt := 132) C d_RM_read_128 (by decide) ?_
      exact k108
    refine j_put C h0k fl_RM_330 fw_11_20 rfl (nz01 (ite01 (Or.inr rfl) (Or.inl rfl))) (fz01 (ite01 (Or.inr rfl) (Or.inl rfl))) d_RM_read_132 (fun σ109 => ?_)
    refine j_aload_n C d_RM_read_135 0 rfl ?_
    refine j_getI C h0k fl_RM_330 rfl d_RM_read_136 ?_
    refine j_if_ne (tgt := 149) C d_RM_read_139 (by decide) (fun c110 => ?_) (fun c110 => ?_)
    · refine j_aload_n C d_RM_read_149 0 rfl ?_
      refine j_bind rfl (fun σ112 e111 => ?_)
      refine j_callVv C mv_RM_333 [] [] h0k (c_RM_keep h0k σ109 e111) rfl rfl (by decide) (Nat.le_of_ble_eq_true rfl) d_RM_read_150 ?_
      refine j_aload_n C d_RM_read_153 0 rfl ?_
      refine j_getI C h0k fl_RM_227 rfl d_RM_read_154 ?_
      exact j_ireti C (fun ρ h => leaf_eq h) d_RM_read_157
    · refine j_iconst (v := (-1 : Int32)) C d_RM_read_142 (by decide) ?_
      refine j_aload_n C d_RM_read_143 0 rfl ?_
      refine j_getI C h0k fl_RM_213 rfl d_RM_read_144 ?_
      refine j_isub C d_RM_read_147 ?_
      exact j_ireti C (fun ρ h => leaf_eq h) d_RM_read_148
  · refine j_if_ne (tgt := 119) C d_RM_read_94 (by decide) (fun c113 => ?_) (fun c113 => ?_)
    · exact H106 q26.2
    · refine j_aload_n C d_RM_read_97 0 rfl ?_
      refine j_getI C h0k fl_RM_216 rfl d_RM_read_98 ?_
      refine j_aload_n C d_RM_read_101 0 rfl ?_
      refine j_getI C h0k fl_RM_207 rfl d_RM_read_102 ?_
      refine j_icmp_ge (tgt := 119) C d_RM_read_105 (by decide) (fun c114 => ?_) (fun c114 => ?_)
      · exact H106 q26.2
      · refine j_aload_n C d_RM_read_108 0 rfl ?_
        refine j_bipush (v := (9 : Int32)) C d_RM_read_109 (by decide) ?_
        refine j_aload_n C d_RM_read_111 0 rfl ?_
        refine j_getI C h0k fl_RM_216 rfl d_RM_read_112 ?_
        refine j_callVi C mv_RM_219 [.int (9 : Int32), .int (q26.2 k0 32)] [] h0k (c_RM_broken h0k (9 : Int32) (q26.2 k0 32) q26.2) rfl rfl (by decide) (Nat.le_of_ble_eq_true rfl) d_RM_read_115 ?_
        refine j_genIMz (z_RM_broken _ _ _ _) (fun q115 q115_z => ?_)
        refine j_istore_n (lv9 := [(0, .ref (fad F k0)), (1, .int q26.1), (2, .int q115.1)]) C d_RM_read_118 rfl rfl (by decide) ?_
        refine j_sub (lv9 := [(0, .ref (fad F k0)), (1, .int q26.1)]) [0, 1] rfl ?_
        exact H106 q115.2
theorem c_RM_read {l : Launch} {D : va_G} {G : GC} {ad : Nat → Nat} {k0 : Nat} (h0k : Is k0 11) (σ : Mem) {q : Int32 × Mem} (hq : f_RM_read k0 σ = some q) : Ctr l D G ad ⟨"LineFramesModel", "read", "()I"⟩ prog_13_method_54_code 3 (some .int) 7 168 [.ref (ad k0)] σ (.inl (some (.int q.1)), q.2) := ctr_J (cv := (cvO cvIM)) (E := f_RM_read k0 σ) (by decide +kernel) (Nat.le_of_ble_eq_true rfl) (by rw [hq]; rfl) (fun F h C => by subst h; exact w_RM_read C h0k σ)
