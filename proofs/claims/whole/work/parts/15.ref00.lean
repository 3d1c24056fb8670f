/-! LineFramesModel thrown ()I -/
theorem d_RM_thrown_0 : decode prog_13_method_2_code 0 = .ok (.aload_n 0, 1) := by decide +kernel
theorem d_RM_thrown_1 : decode prog_13_method_2_code 1 = .ok (.getfield 90, 3) := by decide +kernel
theorem d_RM_thrown_4 : decode prog_13_method_2_code 4 = .ok (.ireturn, 1) := by decide +kernel
def f_RM_thrown (k0 : Nat) (σ : Mem) : Int32 :=
  (σ k0 1)
set_option maxHeartbeats 4000000 in
set_option maxRecDepth 100000 in
theorem w_RM_thrown {F : Fx} (C : Ctx F prog_13_method_2_code 1 "LineFramesModel" (some .int) 0 0) {k0 : Nat} (h0k : Is k0 11) (σ : Mem) : J F 1 (cvI σ) (f_RM_thrown k0 σ) σ 0 [(0, .ref (fad F k0))] [] := by
  unfold f_RM_thrown
  refine j_aload_n C d_RM_thrown_0 0 rfl ?_
  refine j_getI C h0k fl_RM_90 rfl d_RM_thrown_1 ?_
  exact j_ireti C (fun ρ h => leaf_eq h) d_RM_thrown_4
theorem c_RM_thrown {l : Launch} {D : va_G} {G : GC} {ad : Nat → Nat} {k0 : Nat} (h0k : Is k0 11) (σ : Mem) : Ctr l D G ad ⟨"LineFramesModel", "thrown", "()I"⟩ prog_13_method_2_code 1 (some .int) 0 0 [.ref (ad k0)] σ (.inl (some (.int (f_RM_thrown k0 σ))), σ) := ctr_J (cv := (cvI σ)) (E := f_RM_thrown k0 σ) (by decide +kernel) (Nat.le_of_ble_eq_true rfl) rfl (fun F h C => by subst h; exact w_RM_thrown C h0k σ)
/-! LineFramesModel isIn (III)Z -/
theorem d_RM_isIn_0 : decode prog_13_method_3_code 0 = .ok (.iload_n 0, 1) := by decide +kernel
theorem d_RM_isIn_1 : decode prog_13_method_3_code 1 = .ok (.iload_n 1, 1) := by decide +kernel
theorem d_RM_isIn_2 : decode prog_13_method_3_code 2 = .ok (.if_icmp .lt 12, 3) := by decide +kernel
theorem d_RM_isIn_5 : decode prog_13_method_3_code 5 = .ok (.iload_n 0, 1) := by decide +kernel
theorem d_RM_isIn_6 : decode prog_13_method_3_code 6 = .ok (.iload_n 2, 1) := by decide +kernel
theorem d_RM_isIn_7 : decode prog_13_method_3_code 7 = .ok (.if_icmp .gt 7, 3) := by decide +kernel
theorem d_RM_isIn_10 : decode prog_13_method_3_code 10 = .ok (.iconst 1, 1) := by decide +kernel
theorem d_RM_isIn_11 : decode prog_13_method_3_code 11 = .ok (.goto 4, 3) := by decide +kernel
theorem d_RM_isIn_14 : decode prog_13_method_3_code 14 = .ok (.iconst 0, 1) := by decide +kernel
theorem d_RM_isIn_15 : decode prog_13_method_3_code 15 = .ok (.ireturn, 1) := by decide +kernel
def f_RM_isIn (x0 : Int32) (x1 : Int32) (x2 : Int32) (σ : Mem) : Int32 :=
  (if x0 < x1 then (0 : Int32) else (if x2 < x0 then (0 : Int32) else (1 : Int32)))
set_option maxHeartbeats 4000000 in
set_option maxRecDepth 100000 in
theorem w_RM_isIn {F : Fx} (C : Ctx F prog_13_method_3_code 3 "LineFramesModel" (some .boolean) 0 0) (x0 : Int32) (x1 : Int32) (x2 : Int32) (σ : Mem) : J F 3 (cvI σ) (f_RM_isIn x0 x1 x2 σ) σ 0 [(0, .int x0), (1, .int x1), (2, .int x2)] [] := by
  unfold f_RM_isIn
  refine j_iload_n C d_RM_isIn_0 0 rfl ?_
  refine j_iload_n C d_RM_isIn_1 1 rfl ?_
  refine d_icmp_lt (a := (0 : Int32)) (b := (if x2 < x0 then (0 : Int32) else (1 : Int32))) (jp := 15) (tgt := 14) C d_RM_isIn_2 (by decide) (fun c3 k4 => ?_) (fun c3 k4 => ?_) ?_
  · refine j_iconst (v := (0 : Int32)) C d_RM_isIn_14 (by decide) ?_
    exact k4
  · refine j_iload_n C d_RM_isIn_5 0 rfl ?_
    refine j_iload_n C d_RM_isIn_6 2 rfl ?_
    refine d_icmp_gt (a := (0 : Int32)) (b := (1 : Int32)) (jp := 15) (tgt := 14) C d_RM_isIn_7 (by decide) (fun c5 k6 => ?_) (fun c5 k6 => ?_) ?_
    · refine j_iconst (v := (0 : Int32)) C d_RM_isIn_14 (by decide) ?_
      exact k6
    · refine j_iconst (v := (1 : Int32)) C d_RM_isIn_10 (by decide) ?_
      refine j_goto (tgt := 15) C d_RM_isIn_11 (by decide) ?_
      exact k6
    exact k4
  exact j_iretz C (fun ρ h => leaf_eq h) (nz01 (ite01 (Or.inl rfl) (ite01 (Or.inl rfl) (Or.inr rfl)))) d_RM_isIn_15
theorem c_RM_isIn {l : Launch} {D : va_G} {G : GC} {ad : Nat → Nat} (x0 : Int32) (x1 : Int32) (x2 : Int32) (σ : Mem) : Ctr l D G ad ⟨"LineFramesModel", "isIn", "(III)Z"⟩ prog_13_method_3_code 3 (some .boolean) 0 0 [.int x0, .int x1, .int x2] σ (.inl (some (.int (f_RM_isIn x0 x1 x2 σ))), σ) := ctr_J (cv := (cvI σ)) (E := f_RM_isIn x0 x1 x2 σ) (by decide +kernel) (Nat.le_of_ble_eq_true rfl) rfl (fun F h C => by subst h; exact w_RM_isIn C x0 x1 x2 σ)
theorem z_RM_isIn (x0 : Int32) (x1 : Int32) (x2 : Int32) (σ : Mem) : f_RM_isIn x0 x1 x2 σ = 0 ∨ f_RM_isIn x0 x1 x2 σ = 1 := by
  unfold f_RM_isIn
  try simp only [lt]
  repeat' split
  all_goals first | exact Or.inl rfl | exact Or.inr rfl
/-! LineFramesModel fails (I)I -/
theorem d_RM_fails_0 : decode prog_13_method_4_code 0 = .ok (.aload_n 0, 1) := by decide +kernel
theorem d_RM_fails_1 : decode prog_13_method_4_code 1 = .ok (.iload_n 1, 1) := by decide +kernel
theorem d_RM_fails_2 : decode prog_13_method_4_code 2 = .ok (.putfield 90, 3) := by decide +kernel
theorem d_RM_fails_5 : decode prog_13_method_4_code 5 = .ok (.iconst 0, 1) := by decide +kernel
theorem d_RM_fails_6 : decode prog_13_method_4_code 6 = .ok (.ireturn, 1) := by decide +kernel
def f_RM_fails (k0 : Nat) (x1 : Int32) (σ : Mem) : Int32 × Mem :=
  lt (mput σ k0 1 x1) fun σ1 =>
  ((0 : Int32), σ1)
set_option maxHeartbeats 4000000 in
set_option maxRecDepth 100000 in
theorem w_RM_fails {F : Fx} (C : Ctx F prog_13_method_4_code 2 "LineFramesModel" (some .int) 0 0) {k0 : Nat} (h0k : Is k0 11) (x1 : Int32) (σ : Mem) : J F 2 cvIM (f_RM_fails k0 x1 σ) σ 0 [(0, .ref (fad F k0)), (1, .int x1)] [] := by
  unfold f_RM_fails
  refine j_aload_n C d_RM_fails_0 0 rfl ?_
  refine j_iload_n C d_RM_fails_1 1 rfl ?_
  refine j_put C h0k fl_RM_90 fw_11_1 rfl rfl rfl d_RM_fails_2 (fun σ1 => ?_)
  refine j_iconst (v := (0 : Int32)) C d_RM_fails_5 (by decide) ?_
  exact j_ireti C (fun ρ h => leaf_eq h) d_RM_fails_6
theorem c_RM_fails {l : Launch} {D : va_G} {G : GC} {ad : Nat → Nat} {k0 : Nat} (h0k : Is k0 11) (x1 : Int32) (σ : Mem) : Ctr l D G ad ⟨"LineFramesModel", "fails", "(I)I"⟩ prog_13_method_4_code 2 (some .int) 0 0 [.ref (ad k0), .int x1] σ (.inl (some (.int (f_RM_fails k0 x1 σ).1)), (f_RM_fails k0 x1 σ).2) := ctr_J (cv := cvIM) (E := f_RM_fails k0 x1 σ) (by decide +kernel) (Nat.le_of_ble_eq_true rfl) rfl (fun F h C => by subst h; exact w_RM_fails C h0k x1 σ)
/-! LineFramesModel picture (IIII)I -/
theorem d_RM_picture_0 : decode prog_13_method_6_code 0 = .ok (.aload_n 0, 1) := by decide +kernel
theorem d_RM_picture_1 : decode prog_13_method_6_code 1 = .ok (.iconst 0, 1) := by decide +kernel
theorem d_RM_picture_2 : decode prog_13_method_6_code 2 = .ok (.putfield 90, 3) := by decide +kernel
theorem d_RM_picture_5 : decode prog_13_method_6_code 5 = .ok (.iload_n 1, 1) := by decide +kernel
theorem d_RM_picture_6 : decode prog_13_method_6_code 6 = .ok (.iconst 1, 1) := by decide +kernel
theorem d_RM_picture_7 : decode prog_13_method_6_code 7 = .ok (.bipush 12, 2) := by decide +kernel
theorem d_RM_picture_9 : decode prog_13_method_6_code 9 = .ok (.invokestatic 93, 3) := by decide +kernel
theorem d_RM_picture_12 : decode prog_13_method_6_code 12 = .ok (.ifCond .eq 33, 3) := by decide +kernel
theorem d_RM_picture_15 : decode prog_13_method_6_code 15 = .ok (.iload_n 2, 1) := by decide +kernel
theorem d_RM_picture_16 : decode prog_13_method_6_code 16 = .ok (.iconst 1, 1) := by decide +kernel
theorem d_RM_picture_17 : decode prog_13_method_6_code 17 = .ok (.bipush 12, 2) := by decide +kernel
theorem d_RM_picture_19 : decode prog_13_method_6_code 19 = .ok (.invokestatic 93, 3) := by decide +kernel
theorem d_RM_picture_22 : decode prog_13_method_6_code 22 = .ok (.ifCond .eq 23, 3) := by decide +kernel
theorem d_RM_picture_25 : decode prog_13_method_6_code 25 = .ok (.iload_n 3, 1) := by decide +kernel
theorem d_RM_picture_26 : decode prog_13_method_6_code 26 = .ok (.iconst 2, 1) := by decide +kernel
theorem d_RM_picture_27 : decode prog_13_method_6_code 27 = .ok (.bipush 8, 2) := by decide +kernel
theorem d_RM_picture_29 : decode prog_13_method_6_code 29 = .ok (.invokestatic 93, 3) := by decide +kernel
theorem d_RM_picture_32 : decode prog_13_method_6_code 32 = .ok (.ifCond .eq 13, 3) := by decide +kernel
theorem d_RM_picture_35 : decode prog_13_method_6_code 35 = .ok (.iload 4, 2) := by decide +kernel
theorem d_RM_picture_37 : decode prog_13_method_6_code 37 = .ok (.iconst 1, 1) := by decide +kernel
theorem d_RM_picture_38 : decode prog_13_method_6_code 38 = .ok (.iconst 4, 1) := by decide +kernel
theorem d_RM_picture_39 : decode prog_13_method_6_code 39 = .ok (.invokestatic 93, 3) := by decide +kernel
theorem d_RM_picture_42 : decode prog_13_method_6_code 42 = .ok (.ifCond .ne 9, 3) := by decide +kernel
theorem d_RM_picture_45 : decode prog_13_method_6_code 45 = .ok (.aload_n 0, 1) := by decide +kernel
theorem d_RM_picture_46 : decode prog_13_method_6_code 46 = .ok (.iconst 1, 1) := by decide +kernel
theorem d_RM_picture_47 : decode prog_13_method_6_code 47 = .ok (.invokevirtual 97, 3) := by decide +kernel
theorem d_RM_picture_50 : decode prog_13_method_6_code 50 = .ok (.ireturn, 1) := by decide +kernel
theorem d_RM_picture_51 : decode prog_13_method_6_code 51 = .ok (.aload_n 0, 1) := by decide +kernel
theorem d_RM_picture_52 : decode prog_13_method_6_code 52 = .ok (.iload_n 1, 1) := by decide +kernel
theorem d_RM_picture_53 : decode prog_13_method_6_code 53 = .ok (.putfield 101, 3) := by decide +kernel
theorem d_RM_picture_56 : decode prog_13_method_6_code 56 = .ok (.aload_n 0, 1) := by decide +kernel
theorem d_RM_picture_57 : decode prog_13_method_6_code 57 = .ok (.iload_n 2, 1) := by decide +kernel
theorem d_RM_picture_58 : decode prog_13_method_6_code 58 = .ok (.putfield 104, 3) := by decide +kernel
theorem d_RM_picture_61 : decode prog_13_method_6_code 61 = .ok (.aload_n 0, 1) := by decide +kernel
theorem d_RM_picture_62 : decode prog_13_method_6_code 62 = .ok (.iload_n 3, 1) := by decide +kernel
theorem d_RM_picture_63 : decode prog_13_method_6_code 63 = .ok (.putfield 107, 3) := by decide +kernel
theorem d_RM_picture_66 : decode prog_13_method_6_code 66 = .ok (.aload_n 0, 1) := by decide +kernel
theorem d_RM_picture_67 : decode prog_13_method_6_code 67 = .ok (.iload 4, 2) := by decide +kernel
theorem d_RM_picture_69 : decode prog_13_method_6_code 69 = .ok (.putfield 110, 3) := by decide +kernel
theorem d_RM_picture_72 : decode prog_13_method_6_code 72 = .ok (.iconst 0, 1) := by decide +kernel
theorem d_RM_picture_73 : decode prog_13_method_6_code 73 = .ok (.istore 5, 2) := by decide +kernel
theorem d_RM_picture_75 : decode prog_13_method_6_code 75 = .ok (.iload 5, 2) := by decide +kernel
theorem d_RM_picture_77 : decode prog_13_method_6_code 77 = .ok (.sipush 576, 3) := by decide +kernel
theorem d_RM_picture_80 : decode prog_13_method_6_code 80 = .ok (.if_icmp .ge 17, 3) := by decide +kernel
theorem d_RM_picture_83 : decode prog_13_method_6_code 83 = .ok (.aload_n 0, 1) := by decide +kernel
theorem d_RM_picture_84 : decode prog_13_method_6_code 84 = .ok (.getfield 7, 3) := by decide +kernel
theorem d_RM_picture_87 : decode prog_13_method_6_code 87 = .ok (.iload 5, 2) := by decide +kernel
theorem d_RM_picture_89 : decode prog_13_method_6_code 89 = .ok (.iconst 0, 1) := by decide +kernel
theorem d_RM_picture_90 : decode prog_13_method_6_code 90 = .ok (.iastore, 1) := by decide +kernel
theorem d_RM_picture_91 : decode prog_13_method_6_code 91 = .ok (.iinc 5 1, 3) := by decide +kernel
theorem d_RM_picture_94 : decode prog_13_method_6_code 94 = .ok (.goto (-19), 3) := by decide +kernel
theorem d_RM_picture_97 : decode prog_13_method_6_code 97 = .ok (.iconst 0, 1) := by decide +kernel
theorem d_RM_picture_98 : decode prog_13_method_6_code 98 = .ok (.istore 5, 2) := by decide +kernel
theorem d_RM_picture_100 : decode prog_13_method_6_code 100 = .ok (.iload 5, 2) := by decide +kernel
theorem d_RM_picture_102 : decode prog_13_method_6_code 102 = .ok (.iconst 4, 1) := by decide +kernel
theorem d_RM_picture_103 : decode prog_13_method_6_code 103 = .ok (.if_icmp .ge 17, 3) := by decide +kernel
theorem d_RM_picture_106 : decode prog_13_method_6_code 106 = .ok (.aload_n 0, 1) := by decide +kernel
theorem d_RM_picture_107 : decode prog_13_method_6_code 107 = .ok (.getfield 13, 3) := by decide +kernel
theorem d_RM_picture_110 : decode prog_13_method_6_code 110 = .ok (.iload 5, 2) := by decide +kernel
theorem d_RM_picture_112 : decode prog_13_method_6_code 112 = .ok (.iconst 0, 1) := by decide +kernel
theorem d_RM_picture_113 : decode prog_13_method_6_code 113 = .ok (.bastore, 1) := by decide +kernel
theorem d_RM_picture_114 : decode prog_13_method_6_code 114 = .ok (.iinc 5 1, 3) := by decide +kernel
theorem d_RM_picture_117 : decode prog_13_method_6_code 117 = .ok (.goto (-17), 3) := by decide +kernel
theorem d_RM_picture_120 : decode prog_13_method_6_code 120 = .ok (.aload_n 0, 1) := by decide +kernel
theorem d_RM_picture_121 : decode prog_13_method_6_code 121 = .ok (.bipush 64, 2) := by decide +kernel
theorem d_RM_picture_123 : decode prog_13_method_6_code 123 = .ok (.putfield 113, 3) := by decide +kernel
theorem d_RM_picture_126 : decode prog_13_method_6_code 126 = .ok (.aload_n 0, 1) := by decide +kernel
theorem d_RM_picture_127 : decode prog_13_method_6_code 127 = .ok (.iconst 4, 1) := by decide +kernel
theorem d_RM_picture_128 : decode prog_13_method_6_code 128 = .ok (.putfield 116, 3) := by decide +kernel
theorem d_RM_picture_131 : decode prog_13_method_6_code 131 = .ok (.aload_n 0, 1) := by decide +kernel
theorem d_RM_picture_132 : decode prog_13_method_6_code 132 = .ok (.iconst 0, 1) := by decide +kernel
theorem d_RM_picture_133 : decode prog_13_method_6_code 133 = .ok (.putfield 119, 3) := by decide +kernel
theorem d_RM_picture_136 : decode prog_13_method_6_code 136 = .ok (.aload_n 0, 1) := by decide +kernel
theorem d_RM_picture_137 : decode prog_13_method_6_code 137 = .ok (.iconst 0, 1) := by decide +kernel
theorem d_RM_picture_138 : decode prog_13_method_6_code 138 = .ok (.putfield 122, 3) := by decide +kernel
theorem d_RM_picture_141 : decode prog_13_method_6_code 141 = .ok (.iload_n 1, 1) := by decide +kernel
theorem d_RM_picture_142 : decode prog_13_method_6_code 142 = .ok (.iload_n 2, 1) := by decide +kernel
theorem d_RM_picture_143 : decode prog_13_method_6_code 143 = .ok (.imul, 1) := by decide +kernel
theorem d_RM_picture_144 : decode prog_13_method_6_code 144 = .ok (.iload 4, 2) := by decide +kernel
theorem d_RM_picture_146 : decode prog_13_method_6_code 146 = .ok (.imul, 1) := by decide +kernel
theorem d_RM_picture_147 : decode prog_13_method_6_code 147 = .ok (.ireturn, 1) := by decide +kernel
def L_RM_picture_75 (r0 : Nat) (b1 : Int32) (b2 : Int32) (b3 : Int32) (b4 : Int32) : Nat → Int32 → Mem →  Option (Int32 × Mem)
  | 0, _, _ => none
  | n + 1, a5, σ =>
  if (576 : Int32) ≤ a5 then
  some (a5, σ)
  else
  if inb a5 (wln (wtg r0 6)) = true then
  lt (mput σ (wtg r0 6) a5.toNatClampNeg (0 : Int32)) fun σ25 =>
  L_RM_picture_75 r0 b1 b2 b3 b4 n (a5 + (1 : Int32)) σ25
  else none
def L_RM_picture_100 (r0 : Nat) (b1 : Int32) (b2 : Int32) (b3 : Int32) (b4 : Int32) : Nat → Int32 → Mem →  Option (Int32 × Mem)
  | 0, _, _ => none
  | n + 1, a5, σ =>
  if (4 : Int32) ≤ a5 then
  some (a5, σ)
  else
  if inb a5 (wln (wtg r0 7)) = true then
  lt (mput σ (wtg r0 7) a5.toNatClampNeg (nz (0 : Int32))) fun σ29 =>
  L_RM_picture_100 r0 b1 b2 b3 b4 n (a5 + (1 : Int32)) σ29
  else none
def f_RM_picture (k0 : Nat) (x1 : Int32) (x2 : Int32) (x3 : Int32) (x4 : Int32) (σ : Mem) : Option (Int32 × Mem) :=
  lt (mput σ k0 1 (0 : Int32)) fun σ1 =>
  lt (fun  (σ11 : Mem) => 
  lt (f_RM_fails k0 (1 : Int32) σ11) fun q14 =>
  some (q14.1, q14.2)) fun K12 =>
  if (f_RM_isIn x1 (1 : Int32) (12 : Int32) σ1) = 0 then
  K12 σ1
  else
  if (f_RM_isIn x2 (1 : Int32) (12 : Int32) σ1) = 0 then
  K12 σ1
  else
  if (f_RM_isIn x3 (2 : Int32) (8 : Int32) σ1) = 0 then
  K12 σ1
  else
  if (f_RM_isIn x4 (1 : Int32) (4 : Int32) σ1) = 0 then
  K12 σ1
  else
  lt (mput σ1 k0 2 x1) fun σ19 =>
  lt (mput σ19 k0 3 x2) fun σ20 =>
  lt (mput σ20 k0 4 x3) fun σ21 =>
  lt (mput σ21 k0 5 x4) fun σ22 =>
  (L_RM_picture_75 k0 x1 x2 x3 x4 9999 (0 : Int32) σ22).bind fun q26 =>
  (L_RM_picture_100 k0 x1 x2 x3 x4 9999 (0 : Int32) q26.2).bind fun q30 =>
  lt (mput q30.2 k0 9 (64 : Int32)) fun σ31 =>
  lt (mput σ31 k0 10 (4 : Int32)) fun σ32 =>
  lt (mput σ32 k0 11 (0 : Int32)) fun σ33 =>
  lt (mput σ33 k0 12 (0 : Int32)) fun σ34 =>
  some (((x1 * x2) * x4), σ34)
set_option maxHeartbeats 4000000 in
set_option maxRecDepth 100000 in
theorem wL_RM_picture_75 {F : Fx} (C : Ctx F prog_13_method_6_code 6 "LineFramesModel" (some .int) 1 22) {cv : Option (Int32 × Mem) → Option Rs} (h0 : cv none = none) (r0 : Nat) (hr0 : Is r0 11) (b1 : Int32) (b2 : Int32) (b3 : Int32) (b4 : Int32) (hex : ∀ q : Int32 × Mem, J F 6 cv (some q) q.2 97 [(0, .ref (fad F r0)), (1, .int b1), (2, .int b2), (3, .int b3), (4, .int b4), (5, .int q.1)] []) : ∀ (n : Nat) (a5 : Int32) (σ : Mem), J F 6 cv (L_RM_picture_75 r0 b1 b2 b3 b4 n a5 σ) σ 75 [(0, .ref (fad F r0)), (1, .int b1), (2, .int b2), (3, .int b3), (4, .int b4), (5, .int a5)] [] := by
  intro n
  induction n with
  | zero => intro a5 σ hE; rw [L_RM_picture_75, h0] at hE; cases hE
  | succ n ih =>
    intro a5 σ
    rw [L_RM_picture_75]
    refine j_iload C d_RM_picture_75 5 rfl ?_
    refine j_sipush (v := (576 : Int32)) C d_RM_picture_77 (by decide) ?_
    refine j_icmp_ge (tgt := 97) C d_RM_picture_80 (by decide) (fun c23 => ?_) (fun c23 => ?_)
    · exact hex (a5, σ)
    · refine j_aload_n C d_RM_picture_83 0 rfl ?_
      refine j_getR C hr0 fl_RM_7 rfl d_RM_picture_84 ?_
      refine j_iload C d_RM_picture_87 5 rfl ?_
      refine j_iconst (v := (0 : Int32)) C d_RM_picture_89 (by decide) ?_
      refine j_need (by exact h0) (fun g24 => ?_)
      refine j_iast C (tg_11_6 _ hr0) (inb_in g24) d_RM_picture_90 (fun σ25 => ?_)
      refine j_iinc (v := (a5 + (1 : Int32))) (lv9 := [(0, .ref (fad F r0)), (1, .int b1), (2, .int b2), (3, .int b3), (4, .int b4), (5, .int (a5 + (1 : Int32)))]) C d_RM_picture_91 5 rfl rfl rfl rfl (by decide) ?_
      refine j_goto (tgt := 75) C d_RM_picture_94 (by decide) ?_
      exact ih (a5 + (1 : Int32)) σ25
set_option maxHeartbeats 4000000 in
set_option maxRecDepth 100000 in
theorem wL_RM_picture_100 {F : Fx} (C : Ctx F prog_13_method_6_code 6 "LineFramesModel" (some .int) 1 22) {cv : Option (Int32 × Mem) → Option Rs} (h0 : cv none = none) (r0 : Nat) (hr0 : Is r0 11) (b1 : Int32) (b2 : Int32) (b3 : Int32) (b4 : Int32) (hex : ∀ q : Int32 × Mem, J F 6 cv (some q) q.2 120 [(0, .ref (fad F r0)), (1, .int b1), (2, .int b2), (3, .int b3), (4, .int b4), (5, .int q.1)] []) : ∀ (n : Nat) (a5 : Int32) (σ : Mem), J F 6 cv (L_RM_picture_100 r0 b1 b2 b3 b4 n a5 σ) σ 100 [(0, .ref (fad F r0)), (1, .int b1), (2, .int b2), (3, .int b3), (4, .int b4), (5, .int a5)] [] := by
  intro n
  induction n with
  | zero => intro a5 σ hE; rw [L_RM_picture_100, h0] at hE; cases hE
  | succ n ih =>
    intro a5 σ
    rw [L_RM_picture_100]
    refine j_iload C d_RM_picture_100 5 rfl ?_
    refine j_iconst (v := (4 : Int32)) C d_RM_picture_102 (by decide) ?_
    refine j_icmp_ge (tgt := 120) C d_RM_picture_103 (by decide) (fun c27 => ?_) (fun c27 => ?_)
    · exact hex (a5, σ)
    · refine j_aload_n C d_RM_picture_106 0 rfl ?_
      refine j_getR C hr0 fl_RM_13 rfl d_RM_picture_107 ?_
      refine j_iload C d_RM_picture_110 5 rfl ?_
      refine j_iconst (v := (0 : Int32)) C d_RM_picture_112 (by decide) ?_
      refine j_need (by exact h0) (fun g28 => ?_)
      refine j_zast C (tg_11_7 _ hr0) (inb_in g28) d_RM_picture_113 (fun σ29 => ?_)
      refine j_iinc (v := (a5 + (1 : Int32))) (lv9 := [(0, .ref (fad F r0)), (1, .int b1), (2, .int b2), (3, .int b3), (4, .int b4), (5, .int (a5 + (1 : Int32)))]) C d_RM_picture_114 5 rfl rfl rfl rfl (by decide) ?_
      refine j_goto (tgt := 100) C d_RM_picture_117 (by decide) ?_
      exact ih (a5 + (1 : Int32)) σ29
set_option maxHeartbeats 4000000 in
set_option maxRecDepth 100000 in
theorem w_RM_picture {F : Fx} (C : Ctx F prog_13_method_6_code 6 "LineFramesModel" (some .int) 1 22) {k0 : Nat} (h0k : Is k0 11) (x1 : Int32) (x2 : Int32) (x3 : Int32) (x4 : Int32) (σ : Mem) : J F 6 (cvO cvIM) (f_RM_picture k0 x1 x2 x3 x4 σ) σ 0 [(0, .ref (fad F k0)), (1, .int x1), (2, .int x2), (3, .int x3), (4, .int x4)] [] := by
  unfold f_RM_picture
  refine j_aload_n C d_RM_picture_0 0 rfl ?_
  refine j_iconst (v := (0 : Int32)) C d_RM_picture_1 (by decide) ?_
  refine j_put C h0k fl_RM_90 fw_11_1 rfl rfl rfl d_RM_picture_2 (fun σ1 => ?_)
  refine j_iload_n C d_RM_picture_5 1 rfl ?_
  refine j_iconst (v := (1 : Int32)) C d_RM_picture_6 (by decide) ?_
  refine j_bipush (v := (12 : Int32)) C d_RM_picture_7 (by decide) ?_
  refine j_callSi C ms_RM_93 [.int x1, .int (1 : Int32), .int (12 : Int32)] [] (c_RM_isIn x1 (1 : Int32) (12 : Int32) σ1) rfl rfl (by decide) (Nat.le_of_ble_eq_true rfl) d_RM_picture_9 ?_
  refine j_join0m 45 (fun _ => [(0, .ref (fad F k0)), (1, .int x1), (2, .int x2), (3, .int x3), (4, .int x4)]) (fun _ => []) (fun σ11 => ?_) (fun K12 H13 => ?_)
  · refine j_aload_n C d_RM_picture_45 0 rfl ?_
    refine j_iconst (v := (1 : Int32)) C d_RM_picture_46 (by decide) ?_
    refine j_callVi C mv_RM_97 [.int (1 : Int32)] [] h0k (c_RM_fails h0k (1 : Int32) σ11) rfl rfl (by decide) (Nat.le_of_ble_eq_true rfl) d_RM_picture_47 ?_
    refine j_genIM (fun q14 => ?_)
    exact j_ireti C (fun ρ h => leaf_eq h) d_RM_picture_50
  · refine j_if_eq (tgt := 45) C d_RM_picture_12 (by decide) (fun c15 => ?_) (fun c15 => ?_)
    · exact H13 σ1
    · refine j_iload_n C d_RM_picture_15 2 rfl ?_
      refine j_iconst (v := (1 : Int32)) C d_RM_picture_16 (by decide) ?_
      refine j_bipush (v := (12 : Int32)) C d_RM_picture_17 (by decide) ?_
      refine j_callSi C ms_RM_93 [.int x2, .int (1 : Int32), .int (12 : Int32)] [] (c_RM_isIn x2 (1 : Int32) (12 : Int32) σ1) rfl rfl (by decide) (Nat.le_of_ble_eq_true rfl) d_RM_picture_19 ?_
      refine j_if_eq (tgt := 45) C d_RM_picture_22 (by decide) (fun c16 => ?_) (fun c16 => ?_)
      · exact H13 σ1
      · refine j_iload_n C d_RM_picture_25 3 rfl ?_
        refine j_iconst (v := (2 : Int32)) C d_RM_picture_26 (by decide) ?_
        refine j_bipush (v := (8 : Int32)) C d_RM_picture_27 (by decide) ?_
        refine j_callSi C ms_RM_93 [.int x3, .int (2 : Int32), .int (8 : Int32)] [] (c_RM_isIn x3 (2 : Int32) (8 : Int32) σ1) rfl rfl (by decide) (Nat.le_of_ble_eq_true rfl) d_RM_picture_29 ?_
        refine j_if_eq (tgt := 45) C d_RM_picture_32 (by decide) (fun c17 => ?_) (fun c17 => ?_)
        · exact H13 σ1
        · refine j_iload C d_RM_picture_35 4 rfl ?_
          refine j_iconst (v := (1 : Int32)) C d_RM_picture_37 (by decide) ?_
          refine j_iconst (v := (4 : Int32)) C d_RM_picture_38 (by decide) ?_
          refine j_callSi C ms_RM_93 [.int x4, .int (1 : Int32), .int (4 : Int32)] [] (c_RM_isIn x4 (1 : Int32) (4 : Int32) σ1) rfl rfl (by decide) (Nat.le_of_ble_eq_true rfl) d_RM_picture_39 ?_
          refine j_if_ne (tgt := 51) C d_RM_picture_42 (by decide) (fun c18 => ?_) (fun c18 => ?_)
          · refine j_aload_n C d_RM_picture_51 0 rfl ?_
            refine j_iload_n C d_RM_picture_52 1 rfl ?_
            refine j_put C h0k fl_RM_101 fw_11_2 rfl rfl rfl d_RM_picture_53 (fun σ19 => ?_)
            refine j_aload_n C d_RM_picture_56 0 rfl ?_
            refine j_iload_n C d_RM_picture_57 2 rfl ?_
            refine j_put C h0k fl_RM_104 fw_11_3 rfl rfl rfl d_RM_picture_58 (fun σ20 => ?_)
            refine j_aload_n C d_RM_picture_61 0 rfl ?_
            refine j_iload_n C d_RM_picture_62 3 rfl ?_
            refine j_put C h0k fl_RM_107 fw_11_4 rfl rfl rfl d_RM_picture_63 (fun σ21 => ?_)
            refine j_aload_n C d_RM_picture_66 0 rfl ?_
            refine j_iload C d_RM_picture_67 4 rfl ?_
            refine j_put C h0k fl_RM_110 fw_11_5 rfl rfl rfl d_RM_picture_69 (fun σ22 => ?_)
            refine j_iconst (v := (0 : Int32)) C d_RM_picture_72 (by decide) ?_
            refine j_istore (lv9 := [(0, .ref (fad F k0)), (1, .int x1), (2, .int x2), (3, .int x3), (4, .int x4), (5, .int (0 : Int32))]) C d_RM_picture_73 rfl rfl (by decide) ?_
            refine j_loop (wL_RM_picture_75 C rfl k0 h0k x1 x2 x3 x4 (fun q26 => j_some ?_) 9999 (0 : Int32) σ22)
            refine j_iconst (v := (0 : Int32)) C d_RM_picture_97 (by decide) ?_
            refine j_istore (lv9 := [(0, .ref (fad F k0)), (1, .int x1), (2, .int x2), (3, .int x3), (4, .int x4), (5, .int (0 : Int32))]) C d_RM_picture_98 rfl rfl (by decide) ?_
            refine j_loop (wL_RM_picture_100 C rfl k0 h0k x1 x2 x3 x4 (fun q30 => j_some ?_) 9999 (0 : Int32) q26.2)
            refine j_aload_n C d_RM_picture_120 0 rfl ?_
            refine j_bipush (v := (64 : Int32)) C d_RM_picture_121 (by decide) ?_
            refine j_put C h0k fl_RM_113 fw_11_9 rfl rfl rfl d_RM_picture_123 (fun σ31 => ?_)
            refine j_aload_n C d_RM_picture_126 0 rfl ?_
            refine j_iconst (v := (4 : Int32)) C d_RM_picture_127 (by decide) ?_
            refine j_put C h0k fl_RM_116 fw_11_10 rfl rfl rfl d_RM_picture_128 (fun σ32 => ?_)
            refine j_aload_n C d_RM_picture_131 0 rfl ?_
            refine j_iconst (v := (0 : Int32)) C d_RM_picture_132 (by decide) ?_
            refine j_put C h0k fl_RM_119 fw_11_11 rfl rfl rfl d_RM_picture_133 (fun σ33 => ?_)
            refine j_aload_n C d_RM_picture_136 0 rfl ?_
            refine j_iconst (v := (0 : Int32)) C d_RM_picture_137 (by decide) ?_
            refine j_put C h0k fl_RM_122 fw_11_12 rfl rfl rfl d_RM_picture_138 (fun σ34 => ?_)
            refine j_iload_n C d_RM_picture_141 1 rfl ?_
            refine j_iload_n C d_RM_picture_142 2 rfl ?_
            refine j_imul C d_RM_picture_143 ?_
            refine j_iload C d_RM_picture_144 4 rfl ?_
            refine j_imul C d_RM_picture_146 ?_
            exact j_ireti C (fun ρ h => leaf_eq h) d_RM_picture_147
          · exact H13 σ1
theorem c_RM_picture {l : Launch} {D : va_G} {G : GC} {ad : Nat → Nat} {k0 : Nat} (h0k : Is k0 11) (x1 : Int32) (x2 : Int32) (x3 : Int32) (x4 : Int32) (σ : Mem) {q : Int32 × Mem} (hq : f_RM_picture k0 x1 x2 x3 x4 σ = some q) : Ctr l D G ad ⟨"LineFramesModel", "picture", "(IIII)I"⟩ prog_13_method_6_code 6 (some .int) 1 22 [.ref (ad k0), .int x1, .int x2, .int x3, .int x4] σ (.inl (some (.int q.1)), q.2) := ctr_J (cv := (cvO cvIM)) (E := f_RM_picture k0 x1 x2 x3 x4 σ) (by decide +kernel) (Nat.le_of_ble_eq_true rfl) (by rw [hq]; rfl) (fun F h C => by subst h; exact w_RM_picture C h0k x1 x2 x3 x4 σ)
/-! LineFramesModel isComponent (I)Z -/
theorem d_RM_isComponent_0 : decode prog_13_method_7_code 0 = .ok (.iload_n 1, 1) := by decide +kernel
theorem d_RM_isComponent_1 : decode prog_13_method_7_code 1 = .ok (.iconst 0, 1) := by decide +kernel
theorem d_RM_isComponent_2 : decode prog_13_method_7_code 2 = .ok (.aload_n 0, 1) := by decide +kernel
theorem d_RM_isComponent_3 : decode prog_13_method_7_code 3 = .ok (.getfield 110, 3) := by decide +kernel
theorem d_RM_isComponent_6 : decode prog_13_method_7_code 6 = .ok (.iconst 1, 1) := by decide +kernel
theorem d_RM_isComponent_7 : decode prog_13_method_7_code 7 = .ok (.isub, 1) := by decide +kernel
theorem d_RM_isComponent_8 : decode prog_13_method_7_code 8 = .ok (.invokestatic 93, 3) := by decide +kernel
theorem d_RM_isComponent_11 : decode prog_13_method_7_code 11 = .ok (.ireturn, 1) := by decide +kernel
def f_RM_isComponent (k0 : Nat) (x1 : Int32) (σ : Mem) : Int32 :=
  (f_RM_isIn x1 (0 : Int32) ((σ k0 5) - (1 : Int32)) σ)
set_option maxHeartbeats 4000000 in
set_option maxRecDepth 100000 in
theorem w_RM_isComponent {F : Fx} (C : Ctx F prog_13_method_7_code 2 "LineFramesModel" (some .boolean) 1 22) {k0 : Nat} (h0k : Is k0 11) (x1 : Int32) (σ : Mem) : J F 2 (cvI σ) (f_RM_isComponent k0 x1 σ) σ 0 [(0, .ref (fad F k0)), (1, .int x1)] [] := by
  unfold f_RM_isComponent
  refine j_iload_n C d_RM_isComponent_0 1 rfl ?_
  refine j_iconst (v := (0 : Int32)) C d_RM_isComponent_1 (by decide) ?_
  refine j_aload_n C d_RM_isComponent_2 0 rfl ?_
  refine j_getI C h0k fl_RM_110 rfl d_RM_isComponent_3 ?_
  refine j_iconst (v := (1 : Int32)) C d_RM_isComponent_6 (by decide) ?_
  refine j_isub C d_RM_isComponent_7 ?_
  refine j_callSi C ms_RM_93 [.int x1, .int (0 : Int32), .int ((σ k0 5) - (1 : Int32))] [] (c_RM_isIn x1 (0 : Int32) ((σ k0 5) - (1 : Int32)) σ) rfl rfl (by decide) (Nat.le_of_ble_eq_true rfl) d_RM_isComponent_8 ?_
  exact j_iretz C (fun ρ h => leaf_eq h) (nz01 (z_RM_isIn x1 (0 : Int32) ((σ k0 5) - (1 : Int32)) σ)) d_RM_isComponent_11
theorem c_RM_isComponent {l : Launch} {D : va_G} {G : GC} {ad : Nat → Nat} {k0 : Nat} (h0k : Is k0 11) (x1 : Int32) (σ : Mem) : Ctr l D G ad ⟨"LineFramesModel", "isComponent", "(I)Z"⟩ prog_13_method_7_code 2 (some .boolean) 1 22 [.ref (ad k0), .int x1] σ (.inl (some (.int (f_RM_isComponent k0 x1 σ))), σ) := ctr_J (cv := (cvI σ)) (E := f_RM_isComponent k0 x1 σ) (by decide +kernel) (Nat.le_of_ble_eq_true rfl) rfl (fun F h C => by subst h; exact w_RM_isComponent C h0k x1 σ)
theorem z_RM_isComponent (k0 : Nat) (x1 : Int32) (σ : Mem) : f_RM_isComponent k0 x1 σ = 0 ∨ f_RM_isComponent k0 x1 σ = 1 := by
  unfold f_RM_isComponent
  try simp only [lt]
  repeat' split
  all_goals first | exact Or.inl rfl | exact Or.inr rfl | exact z_RM_isIn _ _ _ _
/-! LineFramesModel topOf (I)I -/
theorem d_RM_topOf_0 : decode prog_13_method_5_code 0 = .ok (.iconst 1, 1) := by decide +kernel
theorem d_RM_topOf_1 : decode prog_13_method_5_code 1 = .ok (.iload_n 0, 1) := by decide +kernel
theorem d_RM_topOf_2 : decode prog_13_method_5_code 2 = .ok (.ishl, 1) := by decide +kernel
theorem d_RM_topOf_3 : decode prog_13_method_5_code 3 = .ok (.iconst 1, 1) := by decide +kernel
theorem d_RM_topOf_4 : decode prog_13_method_5_code 4 = .ok (.isub, 1) := by decide +kernel
theorem d_RM_topOf_5 : decode prog_13_method_5_code 5 = .ok (.ireturn, 1) := by decide +kernel
def f_RM_topOf (x0 : Int32) (σ : Mem) : Int32 :=
  (((1 : Int32) <<< (x0 &&& 31)) - (1 : Int32))
set_option maxHeartbeats 4000000 in
set_option maxRecDepth 100000 in
theorem w_RM_topOf {F : Fx} (C : Ctx F prog_13_method_5_code 1 "LineFramesModel" (some .int) 0 0) (x0 : Int32) (σ : Mem) : J F 1 (cvI σ) (f_RM_topOf x0 σ) σ 0 [(0, .int x0)] [] := by
  unfold f_RM_topOf
  refine j_iconst (v := (1 : Int32)) C d_RM_topOf_0 (by decide) ?_
  refine j_iload_n C d_RM_topOf_1 0 rfl ?_
  refine j_ishl C d_RM_topOf_2 ?_
  refine j_iconst (v := (1 : Int32)) C d_RM_topOf_3 (by decide) ?_
  refine j_isub C d_RM_topOf_4 ?_
  exact j_ireti C (fun ρ h => leaf_eq h) d_RM_topOf_5
theorem c_RM_topOf {l : Launch} {D : va_G} {G : GC} {ad : Nat → Nat} (x0 : Int32) (σ : Mem) : Ctr l D G ad ⟨"LineFramesModel", "topOf", "(I)I"⟩ prog_13_method_5_code 1 (some .int) 0 0 [.int x0] σ (.inl (some (.int (f_RM_topOf x0 σ))), σ) := ctr_J (cv := (cvI σ)) (E := f_RM_topOf x0 σ) (by decide +kernel) (Nat.le_of_ble_eq_true rfl) rfl (fun F h C => by subst h; exact w_RM_topOf C x0 σ)
/-! LineFramesModel put (IIII)I -/
theorem d_RM_put_0 : decode prog_13_method_8_code 0 = .ok (.aload_n 0, 1) := by decide +kernel
theorem d_RM_put_1 : decode prog_13_method_8_code 1 = .ok (.aload_n 0, 1) := by decide +kernel
theorem d_RM_put_2 : decode prog_13_method_8_code 2 = .ok (.getfield 110, 3) := by decide +kernel
theorem d_RM_put_5 : decode prog_13_method_8_code 5 = .ok (.ifCond .ne 7, 3) := by decide +kernel
theorem d_RM_put_8 : decode prog_13_method_8_code 8 = .ok (.iconst 1, 1) := by decide +kernel
theorem d_RM_put_9 : decode prog_13_method_8_code 9 = .ok (.goto 64, 3) := by decide +kernel
theorem d_RM_put_12 : decode prog_13_method_8_code 12 = .ok (.aload_n 0, 1) := by decide +kernel
theorem d_RM_put_13 : decode prog_13_method_8_code 13 = .ok (.iload_n 1, 1) := by decide +kernel
theorem d_RM_put_14 : decode prog_13_method_8_code 14 = .ok (.invokevirtual 125, 3) := by decide +kernel
theorem d_RM_put_17 : decode prog_13_method_8_code 17 = .ok (.ifCond .eq 31, 3) := by decide +kernel
theorem d_RM_put_20 : decode prog_13_method_8_code 20 = .ok (.iload_n 2, 1) := by decide +kernel
theorem d_RM_put_21 : decode prog_13_method_8_code 21 = .ok (.iconst 0, 1) := by decide +kernel
theorem d_RM_put_22 : decode prog_13_method_8_code 22 = .ok (.aload_n 0, 1) := by decide +kernel
theorem d_RM_put_23 : decode prog_13_method_8_code 23 = .ok (.getfield 101, 3) := by decide +kernel
theorem d_RM_put_26 : decode prog_13_method_8_code 26 = .ok (.iconst 1, 1) := by decide +kernel
theorem d_RM_put_27 : decode prog_13_method_8_code 27 = .ok (.isub, 1) := by decide +kernel
theorem d_RM_put_28 : decode prog_13_method_8_code 28 = .ok (.invokestatic 93, 3) := by decide +kernel
theorem d_RM_put_31 : decode prog_13_method_8_code 31 = .ok (.ifCond .eq 17, 3) := by decide +kernel
theorem d_RM_put_34 : decode prog_13_method_8_code 34 = .ok (.iload_n 3, 1) := by decide +kernel
theorem d_RM_put_35 : decode prog_13_method_8_code 35 = .ok (.iconst 0, 1) := by decide +kernel
theorem d_RM_put_36 : decode prog_13_method_8_code 36 = .ok (.aload_n 0, 1) := by decide +kernel
theorem d_RM_put_37 : decode prog_13_method_8_code 37 = .ok (.getfield 104, 3) := by decide +kernel
theorem d_RM_put_40 : decode prog_13_method_8_code 40 = .ok (.iconst 1, 1) := by decide +kernel
theorem d_RM_put_41 : decode prog_13_method_8_code 41 = .ok (.isub, 1) := by decide +kernel
theorem d_RM_put_42 : decode prog_13_method_8_code 42 = .ok (.invokestatic 93, 3) := by decide +kernel
theorem d_RM_put_45 : decode prog_13_method_8_code 45 = .ok (.ifCond .ne 7, 3) := by decide +kernel
theorem d_RM_put_48 : decode prog_13_method_8_code 48 = .ok (.iconst 2, 1) := by decide +kernel
theorem d_RM_put_49 : decode prog_13_method_8_code 49 = .ok (.goto 24, 3) := by decide +kernel
theorem d_RM_put_52 : decode prog_13_method_8_code 52 = .ok (.iload 4, 2) := by decide +kernel
theorem d_RM_put_54 : decode prog_13_method_8_code 54 = .ok (.iconst 0, 1) := by decide +kernel
theorem d_RM_put_55 : decode prog_13_method_8_code 55 = .ok (.aload_n 0, 1) := by decide +kernel
theorem d_RM_put_56 : decode prog_13_method_8_code 56 = .ok (.getfield 107, 3) := by decide +kernel
theorem d_RM_put_59 : decode prog_13_method_8_code 59 = .ok (.invokestatic 129, 3) := by decide +kernel
theorem d_RM_put_62 : decode prog_13_method_8_code 62 = .ok (.invokestatic 93, 3) := by decide +kernel
theorem d_RM_put_65 : decode prog_13_method_8_code 65 = .ok (.ifCond .ne 7, 3) := by decide +kernel
theorem d_RM_put_68 : decode prog_13_method_8_code 68 = .ok (.iconst 3, 1) := by decide +kernel
theorem d_RM_put_69 : decode prog_13_method_8_code 69 = .ok (.goto 4, 3) := by decide +kernel
theorem d_RM_put_72 : decode prog_13_method_8_code 72 = .ok (.iconst 0, 1) := by decide +kernel
theorem d_RM_put_73 : decode prog_13_method_8_code 73 = .ok (.putfield 90, 3) := by decide +kernel
theorem d_RM_put_76 : decode prog_13_method_8_code 76 = .ok (.aload_n 0, 1) := by decide +kernel
theorem d_RM_put_77 : decode prog_13_method_8_code 77 = .ok (.getfield 90, 3) := by decide +kernel
theorem d_RM_put_80 : decode prog_13_method_8_code 80 = .ok (.ifCond .le 5, 3) := by decide +kernel
theorem d_RM_put_83 : decode prog_13_method_8_code 83 = .ok (.iconst 0, 1) := by decide +kernel
theorem d_RM_put_84 : decode prog_13_method_8_code 84 = .ok (.ireturn, 1) := by decide +kernel
theorem d_RM_put_85 : decode prog_13_method_8_code 85 = .ok (.sipush 144, 3) := by decide +kernel
theorem d_RM_put_88 : decode prog_13_method_8_code 88 = .ok (.iload_n 1, 1) := by decide +kernel
theorem d_RM_put_89 : decode prog_13_method_8_code 89 = .ok (.imul, 1) := by decide +kernel
theorem d_RM_put_90 : decode prog_13_method_8_code 90 = .ok (.bipush 12, 2) := by decide +kernel
theorem d_RM_put_92 : decode prog_13_method_8_code 92 = .ok (.iload_n 3, 1) := by decide +kernel
theorem d_RM_put_93 : decode prog_13_method_8_code 93 = .ok (.imul, 1) := by decide +kernel
theorem d_RM_put_94 : decode prog_13_method_8_code 94 = .ok (.iadd, 1) := by decide +kernel
theorem d_RM_put_95 : decode prog_13_method_8_code 95 = .ok (.iload_n 2, 1) := by decide +kernel
theorem d_RM_put_96 : decode prog_13_method_8_code 96 = .ok (.iadd, 1) := by decide +kernel
theorem d_RM_put_97 : decode prog_13_method_8_code 97 = .ok (.istore 5, 2) := by decide +kernel
theorem d_RM_put_99 : decode prog_13_method_8_code 99 = .ok (.aload_n 0, 1) := by decide +kernel
theorem d_RM_put_100 : decode prog_13_method_8_code 100 = .ok (.getfield 7, 3) := by decide +kernel
theorem d_RM_put_103 : decode prog_13_method_8_code 103 = .ok (.iload 5, 2) := by decide +kernel
theorem d_RM_put_105 : decode prog_13_method_8_code 105 = .ok (.iaload, 1) := by decide +kernel
theorem d_RM_put_106 : decode prog_13_method_8_code 106 = .ok (.istore 6, 2) := by decide +kernel
theorem d_RM_put_108 : decode prog_13_method_8_code 108 = .ok (.aload_n 0, 1) := by decide +kernel
theorem d_RM_put_109 : decode prog_13_method_8_code 109 = .ok (.getfield 7, 3) := by decide +kernel
theorem d_RM_put_112 : decode prog_13_method_8_code 112 = .ok (.iload 5, 2) := by decide +kernel
theorem d_RM_put_114 : decode prog_13_method_8_code 114 = .ok (.iload 4, 2) := by decide +kernel
theorem d_RM_put_116 : decode prog_13_method_8_code 116 = .ok (.iastore, 1) := by decide +kernel
theorem d_RM_put_117 : decode prog_13_method_8_code 117 = .ok (.iload 6, 2) := by decide +kernel
theorem d_RM_put_119 : decode prog_13_method_8_code 119 = .ok (.ireturn, 1) := by decide +kernel
def f_RM_put (k0 : Nat) (x1 : Int32) (x2 : Int32) (x3 : Int32) (x4 : Int32) (σ : Mem) : Option (Int32 × Mem) :=
  lt (mput σ k0 1 (if (σ k0 5) = 0 then (1 : Int32) else (if (f_RM_isComponent k0 x1 σ) = 0 then (2 : Int32) else (if (f_RM_isIn x2 (0 : Int32) ((σ k0 2) - (1 : Int32)) σ) = 0 then (2 : Int32) else (if (f_RM_isIn x3 (0 : Int32) ((σ k0 3) - (1 : Int32)) σ) = 0 then (2 : Int32) else (if (f_RM_isIn x4 (0 : Int32) (f_RM_topOf (σ k0 4) σ) σ) = 0 then (3 : Int32) else (0 : Int32))))))) fun σ11 =>
  if (σ11 k0 1) ≤ 0 then
  lt ((((144 : Int32) * x1) + ((12 : Int32) * x3)) + x2) fun v13 =>
  if inb v13 (wln (wtg k0 6)) = true then
  if inb v13 (wln (wtg k0 6)) = true then
  lt (mput σ11 (wtg k0 6) v13.toNatClampNeg x4) fun σ16 =>
  some ((σ11 (wtg k0 6) v13.toNatClampNeg), σ16)
  else none
  else none
  else
  some ((0 : Int32), σ11)
set_option maxHeartbeats 4000000 in
set_option maxRecDepth 100000 in
theorem w_RM_put {F : Fx} (C : Ctx F prog_13_method_8_code 7 "LineFramesModel" (some .int) 2 43) {k0 : Nat} (h0k : Is k0 11) (x1 : Int32) (x2 : Int32) (x3 : Int32) (x4 : Int32) (σ : Mem) : J F 7 (cvO cvIM) (f_RM_put k0 x1 x2 x3 x4 σ) σ 0 [(0, .ref (fad F k0)), (1, .int x1), (2, .int x2), (3, .int x3), (4, .int x4)] [] := by
  unfold f_RM_put
  refine j_aload_n C d_RM_put_0 0 rfl ?_
  refine j_aload_n C d_RM_put_1 0 rfl ?_
  refine j_getI C h0k fl_RM_110 rfl d_RM_put_2 ?_
  refine d_if_ne (a := (1 : Int32)) (b := (if (f_RM_isComponent k0 x1 σ) = 0 then (2 : Int32) else (if (f_RM_isIn x2 (0 : Int32) ((σ k0 2) - (1 : Int32)) σ) = 0 then (2 : Int32) else (if (f_RM_isIn x3 (0 : Int32) ((σ k0 3) - (1 : Int32)) σ) = 0 then (2 : Int32) else (if (f_RM_isIn x4 (0 : Int32) (f_RM_topOf (σ k0 4) σ) σ) = 0 then (3 : Int32) else (0 : Int32)))))) (jp := 73) (tgt := 12) C d_RM_put_5 (by decide) (fun c1 k2 => ?_) (fun c1 k2 => ?_) ?_
  · refine j_aload_n C d_RM_put_12 0 rfl ?_
    refine j_iload_n C d_RM_put_13 1 rfl ?_
    refine j_callVi C mv_RM_125 [.int x1] [.ref (fad F k0)] h0k (c_RM_isComponent h0k x1 σ) rfl rfl (by decide) (Nat.le_of_ble_eq_true rfl) d_RM_put_14 ?_
    refine d_if_eq (a := (2 : Int32)) (b := (if (f_RM_isIn x2 (0 : Int32) ((σ k0 2) - (1 : Int32)) σ) = 0 then (2 : Int32) else (if (f_RM_isIn x3 (0 : Int32) ((σ k0 3) - (1 : Int32)) σ) = 0 then (2 : Int32) else (if (f_RM_isIn x4 (0 : Int32) (f_RM_topOf (σ k0 4) σ) σ) = 0 then (3 : Int32) else (0 : Int32))))) (jp := 73) (tgt := 48) C d_RM_put_17 (by decide) (fun c3 k4 => ?_) (fun c3 k4 => ?_) ?_
    · refine j_iconst (v := (2 : Int32)) C d_RM_put_48 (by decide) ?_
      refine j_goto (tgt := 73) C d_RM_put_49 (by decide) ?_
      exact k4
    · refine j_iload_n C d_RM_put_20 2 rfl ?_
      refine j_iconst (v := (0 : Int32)) C d_RM_put_21 (by decide) ?_
      refine j_aload_n C d_RM_put_22 0 rfl ?_
      refine j_getI C h0k fl_RM_101 rfl d_RM_put_23 ?_
      refine j_iconst (v := (1 : Int32)) C d_RM_put_26 (by decide) ?_
      refine j_isub C d_RM_put_27 ?_
      refine j_callSi C ms_RM_93 [.int x2, .int (0 : Int32), .int ((σ k0 2) - (1 : Int32))] [.ref (fad F k0)] (c_RM_isIn x2 (0 : Int32) ((σ k0 2) - (1 : Int32)) σ) rfl rfl (by decide) (Nat.le_of_ble_eq_true rfl) d_RM_put_28 ?_
      refine d_if_eq (a := (2 : Int32)) (b := (if (f_RM_isIn x3 (0 : Int32) ((σ k0 3) - (1 : Int32)) σ) = 0 then (2 : Int32) else (if (f_RM_isIn x4 (0 : Int32) (f_RM_topOf (σ k0 4) σ) σ) = 0 then (3 : Int32) else (0 : Int32)))) (jp := 73) (tgt := 48) C d_RM_put_31 (by decide) (fun c5 k6 => ?_) (fun c5 k6 => ?_) ?_
      · refine j_iconst (v := (2 : Int32)) C d_RM_put_48 (by decide) ?_
        refine j_goto (tgt := 73) C d_RM_put_49 (by decide) ?_
        exact k6
      · refine j_iload_n C d_RM_put_34 3 rfl ?_
        refine j_iconst (v := (0 : Int32)) C d_RM_put_35 (by decide) ?_
        refine j_aload_n C d_RM_put_36 0 rfl ?_
        refine j_getI C h0k fl_RM_104 rfl d_RM_put_37 ?_
        refine j_iconst (v := (1 : Int32)) C d_RM_put_40 (by decide) ?_
        refine j_isub C d_RM_put_41 ?_
        refine j_callSi C ms_RM_93 [.int x3, .int (0 : Int32), .int ((σ k0 3) - (1 : Int32))] [.ref (fad F k0)] (c_RM_isIn x3 (0 : Int32) ((σ k0 3) - (1 : Int32)) σ) rfl rfl (by decide) (Nat.le_of_ble_eq_true rfl) d_RM_put_42 ?_
        refine d_if_ne (a := (2 : Int32)) (b := (if (f_RM_isIn x4 (0 : Int32) (f_RM_topOf (σ k0 4) σ) σ) = 0 then (3 : Int32) else (0 : Int32))) (jp := 73) (tgt := 52) C d_RM_put_45 (by decide) (fun c7 k8 => ?_) (fun c7 k8 => ?_) ?_
        · refine j_iload C d_RM_put_52 4 rfl ?_
          refine j_iconst (v := (0 : Int32)) C d_RM_put_54 (by decide) ?_
          refine j_aload_n C d_RM_put_55 0 rfl ?_
          refine j_getI C h0k fl_RM_107 rfl d_RM_put_56 ?_
          refine j_callSi C ms_RM_129 [.int (σ k0 4)] [.int (0 : Int32), .int x4, .ref (fad F k0)] (c_RM_topOf (σ k0 4) σ) rfl rfl (by decide) (Nat.le_of_ble_eq_true rfl) d_RM_put_59 ?_
          refine j_callSi C ms_RM_93 [.int x4, .int (0 : Int32), .int (f_RM_topOf (σ k0 4) σ)] [.ref (fad F k0)] (c_RM_isIn x4 (0 : Int32) (f_RM_topOf (σ k0 4) σ) σ) rfl rfl (by decide) (Nat.le_of_ble_eq_true rfl) d_RM_put_62 ?_
          refine d_if_ne (a := (3 : Int32)) (b := (0 : Int32)) (jp := 73) (tgt := 72) C d_RM_put_65 (by decide) (fun c9 k10 => ?_) (fun c9 k10 => ?_) ?_
          · refine j_iconst (v := (0 : Int32)) C d_RM_put_72 (by decide) ?_
            exact k10
          · refine j_iconst (v := (3 : Int32)) C d_RM_put_68 (by decide) ?_
            refine j_goto (tgt := 73) C d_RM_put_69 (by decide) ?_
            exact k10
          exact k8
        · refine j_iconst (v := (2 : Int32)) C d_RM_put_48 (by decide) ?_
          refine j_goto (tgt := 73) C d_RM_put_49 (by decide) ?_
          exact k8
        exact k6
      exact k4
    exact k2
  · refine j_iconst (v := (1 : Int32)) C d_RM_put_8 (by decide) ?_
    refine j_goto (tgt := 73) C d_RM_put_9 (by decide) ?_
    exact k2
  refine j_put C h0k fl_RM_90 fw_11_1 rfl rfl rfl d_RM_put_73 (fun σ11 => ?_)
  refine j_aload_n C d_RM_put_76 0 rfl ?_
  refine j_getI C h0k fl_RM_90 rfl d_RM_put_77 ?_
  refine j_if_le (tgt := 85) C d_RM_put_80 (by decide) (fun c12 => ?_) (fun c12 => ?_)
  · refine j_sipush (v := (144 : Int32)) C d_RM_put_85 (by decide) ?_
    refine j_iload_n C d_RM_put_88 1 rfl ?_
    refine j_imul C d_RM_put_89 ?_
    refine j_bipush (v := (12 : Int32)) C d_RM_put_90 (by decide) ?_
    refine j_iload_n C d_RM_put_92 3 rfl ?_
    refine j_imul C d_RM_put_93 ?_
    refine j_iadd C d_RM_put_94 ?_
    refine j_iload_n C d_RM_put_95 2 rfl ?_
    refine j_iadd C d_RM_put_96 ?_
    refine j_nm (fun v13 v13_e => ?_)
    refine j_istore (lv9 := [(0, .ref (fad F k0)), (1, .int x1), (2, .int x2), (3, .int x3), (4, .int x4), (5, .int v13)]) C d_RM_put_97 rfl rfl (by decide) ?_
    refine j_aload_n C d_RM_put_99 0 rfl ?_
    refine j_getR C h0k fl_RM_7 rfl d_RM_put_100 ?_
    refine j_iload C d_RM_put_103 5 rfl ?_
    refine j_need rfl (fun g14 => ?_)
    refine j_iald C (tg_11_6 _ h0k) (inb_in g14) d_RM_put_105 ?_
    refine j_istore (lv9 := [(0, .ref (fad F k0)), (1, .int x1), (2, .int x2), (3, .int x3), (4, .int x4), (5, .int v13), (6, .int (σ11 (wtg k0 6) v13.toNatClampNeg))]) C d_RM_put_106 rfl rfl (by decide) ?_
    refine j_aload_n C d_RM_put_108 0 rfl ?_
    refine j_getR C h0k fl_RM_7 rfl d_RM_put_109 ?_
    refine j_iload C d_RM_put_112 5 rfl ?_
    refine j_iload C d_RM_put_114 4 rfl ?_
    refine j_need rfl (fun g15 => ?_)
    refine j_iast C (tg_11_6 _ h0k) (inb_in g15) d_RM_put_116 (fun σ16 => ?_)
    refine j_iload C d_RM_put_117 6 rfl ?_
    exact j_ireti C (fun ρ h => leaf_eq h) d_RM_put_119
  · refine j_iconst (v := (0 : Int32)) C d_RM_put_83 (by decide) ?_
    exact j_ireti C (fun ρ h => leaf_eq h) d_RM_put_84
theorem c_RM_put {l : Launch} {D : va_G} {G : GC} {ad : Nat → Nat} {k0 : Nat} (h0k : Is k0 11) (x1 : Int32) (x2 : Int32) (x3 : Int32) (x4 : Int32) (σ : Mem) {q : Int32 × Mem} (hq : f_RM_put k0 x1 x2 x3 x4 σ = some q) : Ctr l D G ad ⟨"LineFramesModel", "put", "(IIII)I"⟩ prog_13_method_8_code 7 (some .int) 2 43 [.ref (ad k0), .int x1, .int x2, .int x3, .int x4] σ (.inl (some (.int q.1)), q.2) := ctr_J (cv := (cvO cvIM)) (E := f_RM_put k0 x1 x2 x3 x4 σ) (by decide +kernel) (Nat.le_of_ble_eq_true rfl) (by rw [hq]; rfl) (fun F h C => by subst h; exact w_RM_put C h0k x1 x2 x3 x4 σ)
/-! LineFramesModel preset (II)I -/
theorem d_RM_preset_0 : decode prog_13_method_9_code 0 = .ok (.iload_n 1, 1) := by decide +kernel
theorem d_RM_preset_1 : decode prog_13_method_9_code 1 = .ok (.ifCond .ne 14, 3) := by decide +kernel
theorem d_RM_preset_4 : decode prog_13_method_9_code 4 = .ok (.iload_n 2, 1) := by decide +kernel
theorem d_RM_preset_5 : decode prog_13_method_9_code 5 = .ok (.iconst 3, 1) := by decide +kernel
theorem d_RM_preset_6 : decode prog_13_method_9_code 6 = .ok (.sipush 255, 3) := by decide +kernel
theorem d_RM_preset_9 : decode prog_13_method_9_code 9 = .ok (.invokestatic 93, 3) := by decide +kernel
theorem d_RM_preset_12 : decode prog_13_method_9_code 12 = .ok (.ifCond .ne 34, 3) := by decide +kernel
theorem d_RM_preset_15 : decode prog_13_method_9_code 15 = .ok (.iload_n 1, 1) := by decide +kernel
theorem d_RM_preset_16 : decode prog_13_method_9_code 16 = .ok (.iconst 1, 1) := by decide +kernel
theorem d_RM_preset_17 : decode prog_13_method_9_code 17 = .ok (.if_icmp .ne 14, 3) := by decide +kernel
theorem d_RM_preset_20 : decode prog_13_method_9_code 20 = .ok (.iload_n 2, 1) := by decide +kernel
theorem d_RM_preset_21 : decode prog_13_method_9_code 21 = .ok (.iconst 1, 1) := by decide +kernel
theorem d_RM_preset_22 : decode prog_13_method_9_code 22 = .ok (.sipush 255, 3) := by decide +kernel
theorem d_RM_preset_25 : decode prog_13_method_9_code 25 = .ok (.invokestatic 93, 3) := by decide +kernel
theorem d_RM_preset_28 : decode prog_13_method_9_code 28 = .ok (.ifCond .ne 18, 3) := by decide +kernel
theorem d_RM_preset_31 : decode prog_13_method_9_code 31 = .ok (.iload_n 1, 1) := by decide +kernel
theorem d_RM_preset_32 : decode prog_13_method_9_code 32 = .ok (.iconst 2, 1) := by decide +kernel
theorem d_RM_preset_33 : decode prog_13_method_9_code 33 = .ok (.if_icmp .ne 17, 3) := by decide +kernel
theorem d_RM_preset_36 : decode prog_13_method_9_code 36 = .ok (.iload_n 2, 1) := by decide +kernel
theorem d_RM_preset_37 : decode prog_13_method_9_code 37 = .ok (.iconst 0, 1) := by decide +kernel
theorem d_RM_preset_38 : decode prog_13_method_9_code 38 = .ok (.bipush 12, 2) := by decide +kernel
theorem d_RM_preset_40 : decode prog_13_method_9_code 40 = .ok (.invokestatic 93, 3) := by decide +kernel
theorem d_RM_preset_43 : decode prog_13_method_9_code 43 = .ok (.ifCond .eq 7, 3) := by decide +kernel
theorem d_RM_preset_46 : decode prog_13_method_9_code 46 = .ok (.iconst 1, 1) := by decide +kernel
theorem d_RM_preset_47 : decode prog_13_method_9_code 47 = .ok (.goto 4, 3) := by decide +kernel
theorem d_RM_preset_50 : decode prog_13_method_9_code 50 = .ok (.iconst 0, 1) := by decide +kernel
theorem d_RM_preset_51 : decode prog_13_method_9_code 51 = .ok (.istore_n 3, 1) := by decide +kernel
theorem d_RM_preset_52 : decode prog_13_method_9_code 52 = .ok (.aload_n 0, 1) := by decide +kernel
theorem d_RM_preset_53 : decode prog_13_method_9_code 53 = .ok (.aload_n 0, 1) := by decide +kernel
theorem d_RM_preset_54 : decode prog_13_method_9_code 54 = .ok (.getfield 110, 3) := by decide +kernel
theorem d_RM_preset_57 : decode prog_13_method_9_code 57 = .ok (.ifCond .ne 7, 3) := by decide +kernel
theorem d_RM_preset_60 : decode prog_13_method_9_code 60 = .ok (.iconst 1, 1) := by decide +kernel
theorem d_RM_preset_61 : decode prog_13_method_9_code 61 = .ok (.goto 12, 3) := by decide +kernel
theorem d_RM_preset_64 : decode prog_13_method_9_code 64 = .ok (.iload_n 3, 1) := by decide +kernel
theorem d_RM_preset_65 : decode prog_13_method_9_code 65 = .ok (.ifCond .ne 7, 3) := by decide +kernel
theorem d_RM_preset_68 : decode prog_13_method_9_code 68 = .ok (.iconst 2, 1) := by decide +kernel
theorem d_RM_preset_69 : decode prog_13_method_9_code 69 = .ok (.goto 4, 3) := by decide +kernel
theorem d_RM_preset_72 : decode prog_13_method_9_code 72 = .ok (.iconst 0, 1) := by decide +kernel
theorem d_RM_preset_73 : decode prog_13_method_9_code 73 = .ok (.putfield 90, 3) := by decide +kernel
theorem d_RM_preset_76 : decode prog_13_method_9_code 76 = .ok (.aload_n 0, 1) := by decide +kernel
theorem d_RM_preset_77 : decode prog_13_method_9_code 77 = .ok (.getfield 90, 3) := by decide +kernel
theorem d_RM_preset_80 : decode prog_13_method_9_code 80 = .ok (.ifCond .le 5, 3) := by decide +kernel
theorem d_RM_preset_83 : decode prog_13_method_9_code 83 = .ok (.iconst 0, 1) := by decide +kernel
theorem d_RM_preset_84 : decode prog_13_method_9_code 84 = .ok (.ireturn, 1) := by decide +kernel
theorem d_RM_preset_85 : decode prog_13_method_9_code 85 = .ok (.iload_n 1, 1) := by decide +kernel
theorem d_RM_preset_86 : decode prog_13_method_9_code 86 = .ok (.ifCond .ne 10, 3) := by decide +kernel
theorem d_RM_preset_89 : decode prog_13_method_9_code 89 = .ok (.aload_n 0, 1) := by decide +kernel
theorem d_RM_preset_90 : decode prog_13_method_9_code 90 = .ok (.getfield 113, 3) := by decide +kernel
theorem d_RM_preset_93 : decode prog_13_method_9_code 93 = .ok (.goto 19, 3) := by decide +kernel
theorem d_RM_preset_96 : decode prog_13_method_9_code 96 = .ok (.iload_n 1, 1) := by decide +kernel
theorem d_RM_preset_97 : decode prog_13_method_9_code 97 = .ok (.iconst 1, 1) := by decide +kernel
theorem d_RM_preset_98 : decode prog_13_method_9_code 98 = .ok (.if_icmp .ne 10, 3) := by decide +kernel
theorem d_RM_preset_101 : decode prog_13_method_9_code 101 = .ok (.aload_n 0, 1) := by decide +kernel
theorem d_RM_preset_102 : decode prog_13_method_9_code 102 = .ok (.getfield 116, 3) := by decide +kernel
theorem d_RM_preset_105 : decode prog_13_method_9_code 105 = .ok (.goto 7, 3) := by decide +kernel
theorem d_RM_preset_108 : decode prog_13_method_9_code 108 = .ok (.aload_n 0, 1) := by decide +kernel
theorem d_RM_preset_109 : decode prog_13_method_9_code 109 = .ok (.getfield 119, 3) := by decide +kernel
theorem d_RM_preset_112 : decode prog_13_method_9_code 112 = .ok (.istore 4, 2) := by decide +kernel
theorem d_RM_preset_114 : decode prog_13_method_9_code 114 = .ok (.aload_n 0, 1) := by decide +kernel
theorem d_RM_preset_115 : decode prog_13_method_9_code 115 = .ok (.iload_n 1, 1) := by decide +kernel
theorem d_RM_preset_116 : decode prog_13_method_9_code 116 = .ok (.ifCond .ne 7, 3) := by decide +kernel
theorem d_RM_preset_119 : decode prog_13_method_9_code 119 = .ok (.iload_n 2, 1) := by decide +kernel
theorem d_RM_preset_120 : decode prog_13_method_9_code 120 = .ok (.goto 7, 3) := by decide +kernel
theorem d_RM_preset_123 : decode prog_13_method_9_code 123 = .ok (.aload_n 0, 1) := by decide +kernel
theorem d_RM_preset_124 : decode prog_13_method_9_code 124 = .ok (.getfield 113, 3) := by decide +kernel
theorem d_RM_preset_127 : decode prog_13_method_9_code 127 = .ok (.putfield 113, 3) := by decide +kernel
theorem d_RM_preset_130 : decode prog_13_method_9_code 130 = .ok (.aload_n 0, 1) := by decide +kernel
theorem d_RM_preset_131 : decode prog_13_method_9_code 131 = .ok (.iload_n 1, 1) := by decide +kernel
theorem d_RM_preset_132 : decode prog_13_method_9_code 132 = .ok (.iconst 1, 1) := by decide +kernel
theorem d_RM_preset_133 : decode prog_13_method_9_code 133 = .ok (.if_icmp .ne 7, 3) := by decide +kernel
theorem d_RM_preset_136 : decode prog_13_method_9_code 136 = .ok (.iload_n 2, 1) := by decide +kernel
theorem d_RM_preset_137 : decode prog_13_method_9_code 137 = .ok (.goto 7, 3) := by decide +kernel
theorem d_RM_preset_140 : decode prog_13_method_9_code 140 = .ok (.aload_n 0, 1) := by decide +kernel
theorem d_RM_preset_141 : decode prog_13_method_9_code 141 = .ok (.getfield 116, 3) := by decide +kernel
theorem d_RM_preset_144 : decode prog_13_method_9_code 144 = .ok (.putfield 116, 3) := by decide +kernel
theorem d_RM_preset_147 : decode prog_13_method_9_code 147 = .ok (.aload_n 0, 1) := by decide +kernel
theorem d_RM_preset_148 : decode prog_13_method_9_code 148 = .ok (.iload_n 1, 1) := by decide +kernel
theorem d_RM_preset_149 : decode prog_13_method_9_code 149 = .ok (.iconst 2, 1) := by decide +kernel
theorem d_RM_preset_150 : decode prog_13_method_9_code 150 = .ok (.if_icmp .ne 7, 3) := by decide +kernel
theorem d_RM_preset_153 : decode prog_13_method_9_code 153 = .ok (.iload_n 2, 1) := by decide +kernel
theorem d_RM_preset_154 : decode prog_13_method_9_code 154 = .ok (.goto 7, 3) := by decide +kernel
theorem d_RM_preset_157 : decode prog_13_method_9_code 157 = .ok (.aload_n 0, 1) := by decide +kernel
theorem d_RM_preset_158 : decode prog_13_method_9_code 158 = .ok (.getfield 119, 3) := by decide +kernel
theorem d_RM_preset_161 : decode prog_13_method_9_code 161 = .ok (.putfield 119, 3) := by decide +kernel
theorem d_RM_preset_164 : decode prog_13_method_9_code 164 = .ok (.iload 4, 2) := by decide +kernel
theorem d_RM_preset_166 : decode prog_13_method_9_code 166 = .ok (.ireturn, 1) := by decide +kernel
def f_RM_preset (k0 : Nat) (x1 : Int32) (x2 : Int32) (σ : Mem) : Int32 × Mem :=
  lt (if x1 = 0 then (if (f_RM_isIn x2 (3 : Int32) (255 : Int32) σ) = 0 then (if x1 = (1 : Int32) then (if (f_RM_isIn x2 (1 : Int32) (255 : Int32) σ) = 0 then (if x1 = (2 : Int32) then (if (f_RM_isIn x2 (0 : Int32) (12 : Int32) σ) = 0 then (0 : Int32) else (1 : Int32)) else (0 : Int32)) else (1 : Int32)) else (if x1 = (2 : Int32) then (if (f_RM_isIn x2 (0 : Int32) (12 : Int32) σ) = 0 then (0 : Int32) else (1 : Int32)) else (0 : Int32))) else (1 : Int32)) else (if x1 = (1 : Int32) then (if (f_RM_isIn x2 (1 : Int32) (255 : Int32) σ) = 0 then (if x1 = (2 : Int32) then (if (f_RM_isIn x2 (0 : Int32) (12 : Int32) σ) = 0 then (0 : Int32) else (1 : Int32)) else (0 : Int32)) else (1 : Int32)) else (if x1 = (2 : Int32) then (if (f_RM_isIn x2 (0 : Int32) (12 : Int32) σ) = 0 then (0 : Int32) else (1 : Int32)) else (0 : Int32)))) fun v129 =>
  lt (mput σ k0 1 (if (σ k0 5) = 0 then (1 : Int32) else (if v129 = 0 then (2 : Int32) else (0 : Int32)))) fun σ134 =>
  if (σ134 k0 1) ≤ 0 then
  lt (if x1 = 0 then (σ134 k0 9) else (if x1 = (1 : Int32) then (σ134 k0 10) else (σ134 k0 11))) fun v140 =>
  lt (mput σ134 k0 9 (if x1 = 0 then x2 else (σ134 k0 9))) fun σ143 =>
  lt (mput σ143 k0 10 (if x1 = (1 : Int32) then x2 else (σ143 k0 10))) fun σ146 =>
  lt (mput σ146 k0 11 (if x1 = (2 : Int32) then x2 else (σ146 k0 11))) fun σ149 =>
  (v140, σ149)
  else
  ((0 : Int32), σ134)
set_option maxHeartbeats 4000000 in
set_option maxRecDepth 100000 in
theorem w_RM_preset {F : Fx} (C : Ctx F prog_13_method_9_code 5 "LineFramesModel" (some .int) 1 22) {k0 : Nat} (h0k : Is k0 11) (x1 : Int32) (x2 : Int32) (σ : Mem) : J F 5 cvIM (f_RM_preset k0 x1 x2 σ) σ 0 [(0, .ref (fad F k0)), (1, .int x1), (2, .int x2)] [] := by
  unfold f_RM_preset
  refine j_iload_n C d_RM_preset_0 1 rfl ?_
  refine d_if_ne (a := (if (f_RM_isIn x2 (3 : Int32) (255 : Int32) σ) = 0 then (if x1 = (1 : Int32) then (if (f_RM_isIn x2 (1 : Int32) (255 : Int32) σ) = 0 then (if x1 = (2 : Int32) then (if (f_RM_isIn x2 (0 : Int32) (12 : Int32) σ) = 0 then (0 : Int32) else (1 : Int32)) else (0 : Int32)) else (1 : Int32)) else (if x1 = (2 : Int32) then (if (f_RM_isIn x2 (0 : Int32) (12 : Int32) σ) = 0 then (0 : Int32) else (1 : Int32)) else (0 : Int32))) else (1 : Int32))) (b := (if x1 = (1 : Int32) then (if (f_RM_isIn x2 (1 : Int32) (255 : Int32) σ) = 0 then (if x1 = (2 : Int32) then (if (f_RM_isIn x2 (0 : Int32) (12 : Int32) σ) = 0 then (0 : Int32) else (1 : Int32)) else (0 : Int32)) else (1 : Int32)) else (if x1 = (2 : Int32) then (if (f_RM_isIn x2 (0 : Int32) (12 : Int32) σ) = 0 then (0 : Int32) else (1 : Int32)) else (0 : Int32)))) (jp := 51) (tgt := 15) C d_RM_preset_1 (by decide) (fun c101 k102 => ?_) (fun c101 k102 => ?_) ?_
  · refine j_iload_n C d_RM_preset_15 1 rfl ?_
    refine j_iconst (v := (1 : Int32)) C d_RM_preset_16 (by decide) ?_
    refine d_icmp_ne (a := (if (f_RM_isIn x2 (1 : Int32) (255 : Int32) σ) = 0 then (if x1 = (2 : Int32) then (if (f_RM_isIn x2 (0 : Int32) (12 : Int32) σ) = 0 then (0 : Int32) else (1 : Int32)) else (0 : Int32)) else (1 : Int32))) (b := (if x1 = (2 : Int32) then (if (f_RM_isIn x2 (0 : Int32) (12 : Int32) σ) = 0 then (0 : Int32) else (1 : Int32)) else (0 : Int32))) (jp := 51) (tgt := 31) C d_RM_preset_17 (by decide) (fun c103 k104 => ?_) (fun c103 k104 => ?_) ?_
    · refine j_iload_n C d_RM_preset_31 1 rfl ?_
      refine j_iconst (v := (2 : Int32)) C d_RM_preset_32 (by decide) ?_
      refine d_icmp_ne (a := (if (f_RM_isIn x2 (0 : Int32) (12 : Int32) σ) = 0 then (0 : Int32) else (1 : Int32))) (b := (0 : Int32)) (jp := 51) (tgt := 50) C d_RM_preset_33 (by decide) (fun c105 k106 => ?_) (fun c105 k106 => ?_) ?_
      · refine j_iconst (v := (0 : Int32)) C d_RM_preset_50 (by decide) ?_
        exact k106
      · refine j_iload_n C d_RM_preset_36 2 rfl ?_
        refine j_iconst (v := (0 : Int32)) C d_RM_preset_37 (by decide) ?_
        refine j_bipush (v := (12 : Int32)) C d_RM_preset_38 (by decide) ?_
        refine j_callSi C ms_RM_93 [.int x2, .int (0 : Int32), .int (12 : Int32)] [] (c_RM_isIn x2 (0 : Int32) (12 : Int32) σ) rfl rfl (by decide) (Nat.le_of_ble_eq_true rfl) d_RM_preset_40 ?_
        refine d_if_eq (a := (0 : Int32)) (b := (1 : Int32)) (jp := 51) (tgt := 50) C d_RM_preset_43 (by decide) (fun c107 k108 => ?_) (fun c107 k108 => ?_) ?_
        · refine j_iconst (v := (0 : Int32)) C d_RM_preset_50 (by decide) ?_
          exact k108
        · refine j_iconst (v := (1 : Int32)) C d_RM_preset_46 (by decide) ?_
          refine j_goto (tgt := 51) C d_RM_preset_47 (by decide) ?_
          exact k108
        exact k106
      exact k104
    · refine j_iload_n C d_RM_preset_20 2 rfl ?_
      refine j_iconst (v := (1 : Int32)) C d_RM_preset_21 (by decide) ?_
      refine j_sipush (v := (255 : Int32)) C d_RM_preset_22 (by decide) ?_
      refine j_callSi C ms_RM_93 [.int x2, .int (1 : Int32), .int (255 : Int32)] [] (c_RM_isIn x2 (1 : Int32) (255 : Int32) σ) rfl rfl (by decide) (Nat.le_of_ble_eq_true rfl) d_RM_preset_25 ?_
      refine d_if_ne (a := (if x1 = (2 : Int32) then (if (f_RM_isIn x2 (0 : Int32) (12 : Int32) σ) = 0 then (0 : Int32) else (1 : Int32)) else (0 : Int32))) (b := (1 : Int32)) (jp := 51) (tgt := 46) C d_RM_preset_28 (by decide) (fun c109 k110 => ?_) (fun c109 k110 => ?_) ?_
      · refine j_iconst (v := (1 : Int32)) C d_RM_preset_46 (by decide) ?_
        refine j_goto (tgt := 51) C d_RM_preset_47 (by decide) ?_
        exact k110
      · refine j_iload_n C d_RM_preset_31 1 rfl ?_
        refine j_iconst (v := (2 : Int32)) C d_RM_preset_32 (by decide) ?_
        refine d_icmp_ne (a := (if (f_RM_isIn x2 (0 : Int32) (12 : Int32) σ) = 0 then (0 : Int32) else (1 : Int32))) (b := (0 : Int32)) (jp := 51) (tgt := 50) C d_RM_preset_33 (by decide) (fun c111 k112 => ?_) (fun c111 k112 => ?_) ?_
        · refine j_iconst (v := (0 : Int32)) C d_RM_preset_50 (by decide) ?_
          exact k112
        · refine j_iload_n C d_RM_preset_36 2 rfl ?_
          refine j_iconst (v := (0 : Int32)) C d_RM_preset_37 (by decide) ?_
          refine j_bipush (v := (12 : Int32)) C d_RM_preset_38 (by decide) ?_
          refine j_callSi C ms_RM_93 [.int x2, .int (0 : Int32), .int (12 : Int32)] [] (c_RM_isIn x2 (0 : Int32) (12 : Int32) σ) rfl rfl (by decide) (Nat.le_of_ble_eq_true rfl) d_RM_preset_40 ?_
          refine d_if_eq (a := (0 : Int32)) (b := (1 : Int32)) (jp := 51) (tgt := 50) C d_RM_preset_43 (by decide) (fun c113 k114 => ?_) (fun c113 k114 => ?_) ?_
          · refine j_iconst (v := (0 : Int32)) C d_RM_preset_50 (by decide) ?_
            exact k114
          · refine j_iconst (v := (1 : Int32)) C d_RM_preset_46 (by decide) ?_
            refine j_goto (tgt := 51) C d_RM_preset_47 (by decide) ?_
            exact k114
          exact k112
        exact k110
      exact k104
    exact k102
  · refine j_iload_n C d_RM_preset_4 2 rfl ?_
    refine j_iconst (v := (3 : Int32)) C d_RM_preset_5 (by decide) ?_
    refine j_sipush (v := (255 : Int32)) C d_RM_preset_6 (by decide) ?_
    refine j_callSi C ms_RM_93 [.int x2, .int (3 : Int32), .int (255 : Int32)] [] (c_RM_isIn x2 (3 : Int32) (255 : Int32) σ) rfl rfl (by decide) (Nat.le_of_ble_eq_true rfl) d_RM_preset_9 ?_
    refine d_if_ne (a := (if x1 = (1 : Int32) then (if (f_RM_isIn x2 (1 : Int32) (255 : Int32) σ) = 0 then (if x1 = (2 : Int32) then (if (f_RM_isIn x2 (0 : Int32) (12 : Int32) σ) = 0 then (0 : Int32) else (1 : Int32)) else (0 : Int32)) else (1 : Int32)) else (if x1 = (2 : Int32) then (if (f_RM_isIn x2 (0 : Int32) (12 : Int32) σ) = 0 then (0 : Int32) else (1 : Int32)) else (0 : Int32)))) (b := (1 : Int32)) (jp := 51) (tgt := 46) C d_RM_preset_12 (by decide) (fun c115 k116 => ?_) (fun c115 k116 => ?_) ?_
    · refine j_iconst (v := (1 : Int32)) C d_RM_preset_46 (by decide) ?_
      refine j_goto (tgt := 51) C d_RM_preset_47 (by decide) ?_
      exact k116
    · refine j_iload_n C d_RM_preset_15 1 rfl ?_
      refine j_iconst (v := (1 : Int32)) C d_RM_preset_16 (by decide) ?_
      refine d_icmp_ne (a := (if (f_RM_isIn x2 (1 : Int32) (255 : Int32) σ) = 0 then (if x1 = (2 : Int32) then (if (f_RM_isIn x2 (0 : Int32) (12 : Int32) σ) = 0 then (0 : Int32) else (1 : Int32)) else (0 : Int32)) else (1 : Int32))) (b := (if x1 = (2 : Int32) then (if (f_RM_isIn x2 (0 : Int32) (12 : Int32) σ) = 0 then (0 : Int32) else (1 : Int32)) else (0 : Int32))) (jp := 51) (tgt := 31) C d_RM_preset_17 (by decide) (fun c117 k118 => ?_) (fun c117 k118 => ?_) ?_
      · refine j_iload_n C d_RM_preset_31 1 rfl ?_
        refine j_iconst (v := (2 : Int32)) C d_RM_preset_32 (by decide) ?_
        refine d_icmp_ne (a := (if (f_RM_isIn x2 (0 : Int32) (12 : Int32) σ) = 0 then (0 : Int32) else (1 : Int32))) (b := (0 : Int32)) (jp := 51) (tgt := 50) C d_RM_preset_33 (by decide) (fun c119 k120 => ?_) (fun c119 k120 => ?_) ?_
        · refine j_iconst (v := (0 : Int32)) C d_RM_preset_50 (by decide) ?_
          exact k120
        · refine j_iload_n C d_RM_preset_36 2 rfl ?_
          refine j_iconst (v := (0 : Int32)) C d_RM_preset_37 (by decide) ?_
          refine j_bipush (v := (12 : Int32)) C d_RM_preset_38 (by decide) ?_
          refine j_callSi C ms_RM_93 [.int x2, .int (0 : Int32), .int (12 : Int32)] [] (c_RM_isIn x2 (0 : Int32) (12 : Int32) σ) rfl rfl (by decide) (Nat.le_of_ble_eq_true rfl) d_RM_preset_40 ?_
          refine d_if_eq (a := (0 : Int32)) (b := (1 : Int32)) (jp := 51) (tgt := 50) C d_RM_preset_43 (by decide) (fun c121 k122 => ?_) (fun c121 k122 => ?_) ?_
          · refine j_iconst (v := (0 : Int32)) C d_RM_preset_50 (by decide) ?_
            exact k122
          · refine j_iconst (v := (1 : Int32)) C d_RM_preset_46 (by decide) ?_
            refine j_goto (tgt := 51) C d_RM_preset_47 (by decide) ?_
            exact k122
          exact k120
        exact k118
      · refine j_iload_n C d_RM_preset_20 2 rfl ?_
        refine j_iconst (v := (1 : Int32)) C d_RM_preset_21 (by decide) ?_
        refine j_sipush (v := (255 : Int32)) C d_RM_preset_22 (by decide) ?_
        refine j_callSi C ms_RM_93 [.int x2, .int (1 : Int32), .int (255 : Int32)] [] (c_RM_isIn x2 (1 : Int32) (255 : Int32) σ) rfl rfl (by decide) (Nat.le_of_ble_eq_true rfl) d_RM_preset_25 ?_
        refine d_if_ne (a := (if x1 = (2 : Int32) then (if (f_RM_isIn x2 (0 : Int32) (12 : Int32) σ) = 0 then (0 : Int32) else (1 : Int32)) else (0 : Int32))) (b := (1 : Int32)) (jp := 51) (tgt := 46) C d_RM_preset_28 (by decide) (fun c123 k124 => ?_) (fun c123 k124 => ?_) ?_
        · refine j_iconst (v := (1 : Int32)) C d_RM_preset_46 (by decide) ?_
          refine j_goto (tgt := 51) C d_RM_preset_47 (by decide) ?_
          exact k124
        · refine j_iload_n C d_RM_preset_31 1 rfl ?_
          refine j_iconst (v := (2 : Int32)) C d_RM_preset_32 (by decide) ?_
          refine d_icmp_ne (a := (if (f_RM_isIn x2 (0 : Int32) (12 : Int32) σ) = 0 then (0 : Int32) else (1 : Int32))) (b := (0 : Int32)) (jp := 51) (tgt := 50) C d_RM_preset_33 (by decide) (fun c125 k126 => ?_) (fun c125 k126 => ?_) ?_
          · refine j_iconst (v := (0 : Int32)) C d_RM_preset_50 (by decide) ?_
            exact k126
          · refine j_iload_n C d_RM_preset_36 2 rfl ?_
            refine j_iconst (v := (0 : Int32)) C d_RM_preset_37 (by decide) ?_
            refine j_bipush (v := (12 : Int32)) C d_RM_preset_38 (by decide) ?_
            refine j_callSi C ms_RM_93 [.int x2, .int (0 : Int32), .int (12 : Int32)] [] (c_RM_isIn x2 (0 : Int32) (12 : Int32) σ) rfl rfl (by decide) (Nat.le_of_ble_eq_true rfl) d_RM_preset_40 ?_
            refine d_if_eq (a := (0 : Int32)) (b := (1 : Int32)) (jp := 51) (tgt := 50) C d_RM_preset_43 (by decide) (fun c127 k128 => ?_) (fun c127 k128 => ?_) ?_
            · refine j_iconst (v := (0 : Int32)) C d_RM_preset_50 (by decide) ?_
              exact k128
            · refine j_iconst (v := (1 : Int32)) C d_RM_preset_46 (by decide) ?_
              refine j_goto (tgt := 51) C d_RM_preset_47 (by decide) ?_
              exact k128
            exact k126
          exact k124
        exact k118
      exact k116
    exact k102
  refine j_nm (fun v129 v129_e => ?_)
  refine j_istore_n (lv9 := [(0, .ref (fad F k0)), (1, .int x1), (2, .int x2), (3, .int v129)]) C d_RM_preset_51 rfl rfl (by decide) ?_
  refine j_aload_n C d_RM_preset_52 0 rfl ?_
  refine j_aload_n C d_RM_preset_53 0 rfl ?_
  refine j_getI C h0k fl_RM_110 rfl d_RM_preset_54 ?_
  refine d_if_ne (a := (1 : Int32)) (b := (if v129 = 0 then (2 : Int32) else (0 : Int32))) (jp := 73) (tgt := 64) C d_RM_preset_57 (by decide) (fun c130 k131 => ?_) (fun c130 k131 => ?_) ?_
  · refine j_iload_n C d_RM_preset_64 3 rfl ?_
    refine d_if_ne (a := (2 : Int32)) (b := (0 : Int32)) (jp := 73) (tgt := 72) C d_RM_preset_65 (by decide) (fun c132 k133 => ?_) (fun c132 k133 => ?_) ?_
    · refine j_iconst (v := (0 : Int32)) C d_RM_preset_72 (by decide) ?_
      exact k133
    · refine j_iconst (v := (2 : Int32)) C d_RM_preset_68 (by decide) ?_
      refine j_goto (tgt := 73) C d_RM_preset_69 (by decide) ?_
      exact k133
    exact k131
  · refine j_iconst (v := (1 : Int32)) C d_RM_preset_60 (by decide) ?_
    refine j_goto (tgt := 73) C d_RM_preset_61 (by decide) ?_
    exact k131
  refine j_put C h0k fl_RM_90 fw_11_1 rfl rfl rfl d_RM_preset_73 (fun σ134 => ?_)
  refine j_aload_n C d_RM_preset_76 0 rfl ?_
  refine j_getI C h0k fl_RM_90 rfl d_RM_preset_77 ?_
  refine j_if_le (tgt := 85) C d_RM_preset_80 (by decide) (fun c135 => ?_) (fun c135 => ?_)
  · refine j_iload_n C d_RM_preset_85 1 rfl ?_
    refine d_if_ne (a := (σ134 k0 9)) (b := (if x1 = (1 : Int32) then (σ134 k0 10) else (σ134 k0 11))) (jp := 112) (tgt := 96) C d_RM_preset_86 (by decide) (fun c136 k137 => ?_) (fun c136 k137 => ?_) ?_
    · refine j_iload_n C d_RM_preset_96 1 rfl ?_
      refine j_iconst (v := (1 : Int32)) C d_RM_preset_97 (by decide) ?_
      refine d_icmp_ne (a := (σ134 k0 10)) (b := (σ134 k0 11)) (jp := 112) (tgt := 108) C d_RM_preset_98 (by decide) (fun c138 k139 => ?_) (fun c138 k139 => ?_) ?_
      · refine j_aload_n C d_RM_preset_108 0 rfl ?_
        refine j_getI C h0k fl_RM_119 rfl d_RM_preset_109 ?_
        exact k139
      · refine j_aload_n C d_RM_preset_101 0 rfl ?_
        refine j_getI C h0k fl_RM_116 rfl d_RM_preset_102 ?_
        refine j_goto (tgt := 112) C d_RM_preset_105 (by decide) ?_
        exact k139
      exact k137
    · refine j_aload_n C d_RM_preset_89 0 rfl ?_
      refine j_getI C h0k fl_RM_113 rfl d_RM_preset_90 ?_
      refine j_goto (tgt := 112) C d_RM_preset_93 (by decide) ?_
      exact k137
    refine j_nm (fun v140 v140_e => ?_)
    refine j_istore (lv9 := [(0, .ref (fad F k0)), (1, .int x1), (2, .int x2), (3, .int v129), (4, .int v140)]) C d_RM_preset_112 rfl rfl (by decide) ?_
    refine j_aload_n C d_RM_preset_114 0 rfl ?_
    refine j_iload_n C d_RM_preset_115 1 rfl ?_
    refine d_if_ne (a := x2) (b := (σ134 k0 9)) (jp := 127) (tgt := 123) C d_RM_preset_116 (by decide) (fun c141 k142 => ?_) (fun c141 k142 => ?_) ?_
    · refine j_aload_n C d_RM_preset_123 0 rfl ?_
      refine j_getI C h0k fl_RM_113 rfl d_RM_preset_124 ?_
      exact k142
    · refine j_iload_n C d_RM_preset_119 2 rfl ?_
      refine j_goto (tgt := 127) C d_RM_preset_120 (by decide) ?_
      exact k142
    refine j_put C h0k fl_RM_113 fw_11_9 rfl rfl rfl d_RM_preset_127 (fun σ143 => ?_)
    refine j_aload_n C d_RM_preset_130 0 rfl ?_
    refine j_iload_n C d_RM_preset_131 1 rfl ?_
    refine j_iconst (v := (1 : Int32)) C d_RM_preset_132 (by decide) ?_
    refine d_icmp_ne (a := x2) (b := (σ143 k0 10)) (jp := 144) (tgt := 140) C d_RM_preset_133 (by decide) (fun c144 k145 => ?_) (fun c144 k145 => ?_) ?_
    · refine j_aload_n C d_RM_preset_140 0 rfl ?_
      refine j_getI C h0k fl_RM_116 rfl d_RM_preset_141 ?_
      exact k145
    · refine j_iload_n C d_RM_preset_136 2 rfl ?_
      refine j_goto (tgt := 144) C d_RM_preset_137 (by decide) ?_
      exact k145
    refine j_put C h0k fl_RM_116 fw_11_10 rfl rfl rfl d_RM_preset_144 (fun σ146 => ?_)
    refine j_aload_n C d_RM_preset_147 0 rfl ?_
    refine j_iload_n C d_RM_preset_148 1 rfl ?_
    refine j_iconst (v := (2 : Int32)) C d_RM_preset_149 (by decide) ?_
    refine d_icmp_ne (a := x2) (b := (σ146 k0 11)) (jp := 161) (tgt := 157) C d_RM_preset_150 (by decide) (fun c147 k148 => ?_) (fun c147 k148 => ?_) ?_
    · refine j_aload_n C d_RM_preset_157 0 rfl ?_
      refine j_getI C h0k fl_RM_119 rfl d_RM_preset_158 ?_
      exact k148
    · refine j_iload_n C d_RM_preset_153 2 rfl ?_
      refine j_goto (tgt := 161) C d_RM_preset_154 (by decide) ?_
      exact k148
    refine j_put C h0k fl_RM_119 fw_11_11 rfl rfl rfl d_RM_preset_161 (fun σ149 => ?_)
    refine j_iload C d_RM_preset_164 4 rfl ?_
    exact j_ireti C (fun ρ h => leaf_eq h) d_RM_preset_166
  · refine j_iconst (v := (0 : Int32)) C d_RM_preset_83 (by decide) ?_
    exact j_ireti C (fun ρ h => leaf_eq h) d_RM_preset_84
theorem c_RM_preset {l : Launch} {D : va_G} {G : GC} {ad : Nat → Nat} {k0 : Nat} (h0k : Is k0 11) (x1 : Int32) (x2 : Int32) (σ : Mem) : Ctr l D G ad ⟨"LineFramesModel", "preset", "(II)I"⟩ prog_13_method_9_code 5 (some .int) 1 22 [.ref (ad k0), .int x1, .int x2] σ (.inl (some (.int (f_RM_preset k0 x1 x2 σ).1)), (f_RM_preset k0 x1 x2 σ).2) := ctr_J (cv := cvIM) (E := f_RM_preset k0 x1 x2 σ) (by decide +kernel) (Nat.le_of_ble_eq_true rfl) rfl (fun F h C => by subst h; exact w_RM_preset C h0k x1 x2 σ)
/-! LineFramesModel table (III)I -/
theorem d_RM_table_0 : decode prog_13_method_10_code 0 = .ok (.aload_n 0, 1) := by decide +kernel
theorem d_RM_table_1 : decode prog_13_method_10_code 1 = .ok (.aload_n 0, 1) := by decide +kernel
theorem d_RM_table_2 : decode prog_13_method_10_code 2 = .ok (.getfield 110, 3) := by decide +kernel
theorem d_RM_table_5 : decode prog_13_method_10_code 5 = .ok (.ifCond .ne 7, 3) := by decide +kernel
theorem d_RM_table_8 : decode prog_13_method_10_code 8 = .ok (.iconst 1, 1) := by decide +kernel
theorem d_RM_table_9 : decode prog_13_method_10_code 9 = .ok (.goto 45, 3) := by decide +kernel
theorem d_RM_table_12 : decode prog_13_method_10_code 12 = .ok (.aload_n 0, 1) := by decide +kernel
theorem d_RM_table_13 : decode prog_13_method_10_code 13 = .ok (.iload_n 1, 1) := by decide +kernel
theorem d_RM_table_14 : decode prog_13_method_10_code 14 = .ok (.invokevirtual 125, 3) := by decide +kernel
theorem d_RM_table_17 : decode prog_13_method_10_code 17 = .ok (.ifCond .ne 7, 3) := by decide +kernel
theorem d_RM_table_20 : decode prog_13_method_10_code 20 = .ok (.iconst 2, 1) := by decide +kernel
theorem d_RM_table_21 : decode prog_13_method_10_code 21 = .ok (.goto 33, 3) := by decide +kernel
theorem d_RM_table_24 : decode prog_13_method_10_code 24 = .ok (.iload_n 2, 1) := by decide +kernel
theorem d_RM_table_25 : decode prog_13_method_10_code 25 = .ok (.iconst 0, 1) := by decide +kernel
theorem d_RM_table_26 : decode prog_13_method_10_code 26 = .ok (.aload_n 0, 1) := by decide +kernel
theorem d_RM_table_27 : decode prog_13_method_10_code 27 = .ok (.getfield 107, 3) := by decide +kernel
theorem d_RM_table_30 : decode prog_13_method_10_code 30 = .ok (.invokestatic 129, 3) := by decide +kernel
theorem d_RM_table_33 : decode prog_13_method_10_code 33 = .ok (.invokestatic 93, 3) := by decide +kernel
theorem d_RM_table_36 : decode prog_13_method_10_code 36 = .ok (.ifCond .eq 13, 3) := by decide +kernel
theorem d_RM_table_39 : decode prog_13_method_10_code 39 = .ok (.iload_n 3, 1) := by decide +kernel
theorem d_RM_table_40 : decode prog_13_method_10_code 40 = .ok (.iconst 0, 1) := by decide +kernel
theorem d_RM_table_41 : decode prog_13_method_10_code 41 = .ok (.ldc 132, 2) := by decide +kernel
theorem d_RM_table_43 : decode prog_13_method_10_code 43 = .ok (.invokestatic 93, 3) := by decide +kernel
theorem d_RM_table_46 : decode prog_13_method_10_code 46 = .ok (.ifCond .ne 7, 3) := by decide +kernel
theorem d_RM_table_49 : decode prog_13_method_10_code 49 = .ok (.iconst 3, 1) := by decide +kernel
theorem d_RM_table_50 : decode prog_13_method_10_code 50 = .ok (.goto 4, 3) := by decide +kernel
theorem d_RM_table_53 : decode prog_13_method_10_code 53 = .ok (.iconst 0, 1) := by decide +kernel
theorem d_RM_table_54 : decode prog_13_method_10_code 54 = .ok (.putfield 90, 3) := by decide +kernel
theorem d_RM_table_57 : decode prog_13_method_10_code 57 = .ok (.aload_n 0, 1) := by decide +kernel
theorem d_RM_table_58 : decode prog_13_method_10_code 58 = .ok (.getfield 90, 3) := by decide +kernel
theorem d_RM_table_61 : decode prog_13_method_10_code 61 = .ok (.ifCond .le 5, 3) := by decide +kernel
theorem d_RM_table_64 : decode prog_13_method_10_code 64 = .ok (.iconst 0, 1) := by decide +kernel
theorem d_RM_table_65 : decode prog_13_method_10_code 65 = .ok (.ireturn, 1) := by decide +kernel
theorem d_RM_table_66 : decode prog_13_method_10_code 66 = .ok (.aload_n 0, 1) := by decide +kernel
theorem d_RM_table_67 : decode prog_13_method_10_code 67 = .ok (.getfield 13, 3) := by decide +kernel
theorem d_RM_table_70 : decode prog_13_method_10_code 70 = .ok (.iload_n 1, 1) := by decide +kernel
theorem d_RM_table_71 : decode prog_13_method_10_code 71 = .ok (.baload, 1) := by decide +kernel
theorem d_RM_table_72 : decode prog_13_method_10_code 72 = .ok (.ifCond .eq 18, 3) := by decide +kernel
theorem d_RM_table_75 : decode prog_13_method_10_code 75 = .ok (.aload_n 0, 1) := by decide +kernel
theorem d_RM_table_76 : decode prog_13_method_10_code 76 = .ok (.getfield 17, 3) := by decide +kernel
theorem d_RM_table_79 : decode prog_13_method_10_code 79 = .ok (.sipush 256, 3) := by decide +kernel
theorem d_RM_table_82 : decode prog_13_method_10_code 82 = .ok (.iload_n 1, 1) := by decide +kernel
theorem d_RM_table_83 : decode prog_13_method_10_code 83 = .ok (.imul, 1) := by decide +kernel
theorem d_RM_table_84 : decode prog_13_method_10_code 84 = .ok (.iload_n 2, 1) := by decide +kernel
theorem d_RM_table_85 : decode prog_13_method_10_code 85 = .ok (.iadd, 1) := by decide +kernel
theorem d_RM_table_86 : decode prog_13_method_10_code 86 = .ok (.iaload, 1) := by decide +kernel
theorem d_RM_table_87 : decode prog_13_method_10_code 87 = .ok (.goto 4, 3) := by decide +kernel
theorem d_RM_table_90 : decode prog_13_method_10_code 90 = .ok (.iconst (-1), 1) := by decide +kernel
theorem d_RM_table_91 : decode prog_13_method_10_code 91 = .ok (.istore 4, 2) := by decide +kernel
theorem d_RM_table_93 : decode prog_13_method_10_code 93 = .ok (.iconst 0, 1) := by decide +kernel
theorem d_RM_table_94 : decode prog_13_method_10_code 94 = .ok (.istore 5, 2) := by decide +kernel
theorem d_RM_table_96 : decode prog_13_method_10_code 96 = .ok (.iload 5, 2) := by decide +kernel
theorem d_RM_table_98 : decode prog_13_method_10_code 98 = .ok (.sipush 256, 3) := by decide +kernel
theorem d_RM_table_101 : decode prog_13_method_10_code 101 = .ok (.if_icmp .ge 32, 3) := by decide +kernel
theorem d_RM_table_104 : decode prog_13_method_10_code 104 = .ok (.aload_n 0, 1) := by decide +kernel
theorem d_RM_table_105 : decode prog_13_method_10_code 105 = .ok (.getfield 13, 3) := by decide +kernel
theorem d_RM_table_108 : decode prog_13_method_10_code 108 = .ok (.iload_n 1, 1) := by decide +kernel
theorem d_RM_table_109 : decode prog_13_method_10_code 109 = .ok (.baload, 1) := by decide +kernel
theorem d_RM_table_110 : decode prog_13_method_10_code 110 = .ok (.ifCond .ne 23, 3) := by decide +kernel
theorem d_RM_table_113 : decode prog_13_method_10_code 113 = .ok (.aload_n 0, 1) := by decide +kernel
theorem d_RM_table_114 : decode prog_13_method_10_code 114 = .ok (.getfield 17, 3) := by decide +kernel
theorem d_RM_table_117 : decode prog_13_method_10_code 117 = .ok (.sipush 256, 3) := by decide +kernel
theorem d_RM_table_120 : decode prog_13_method_10_code 120 = .ok (.iload_n 1, 1) := by decide +kernel
theorem d_RM_table_121 : decode prog_13_method_10_code 121 = .ok (.imul, 1) := by decide +kernel
theorem d_RM_table_122 : decode prog_13_method_10_code 122 = .ok (.iload 5, 2) := by decide +kernel
theorem d_RM_table_124 : decode prog_13_method_10_code 124 = .ok (.iadd, 1) := by decide +kernel
theorem d_RM_table_125 : decode prog_13_method_10_code 125 = .ok (.iconst 0, 1) := by decide +kernel
theorem d_RM_table_126 : decode prog_13_method_10_code 126 = .ok (.iastore, 1) := by decide +kernel
theorem d_RM_table_127 : decode prog_13_method_10_code 127 = .ok (.iinc 5 1, 3) := by decide +kernel
theorem d_RM_table_130 : decode prog_13_method_10_code 130 = .ok (.goto (-34), 3) := by decide +kernel
theorem d_RM_table_133 : decode prog_13_method_10_code 133 = .ok (.aload_n 0, 1) := by decide +kernel
theorem d_RM_table_134 : decode prog_13_method_10_code 134 = .ok (.getfield 13, 3) := by decide +kernel
theorem d_RM_table_137 : decode prog_13_method_10_code 137 = .ok (.iload_n 1, 1) := by decide +kernel
theorem d_RM_table_138 : decode prog_13_method_10_code 138 = .ok (.iconst 1, 1) := by decide +kernel
theorem d_RM_table_139 : decode prog_13_method_10_code 139 = .ok (.bastore, 1) := by decide +kernel
theorem d_RM_table_140 : decode prog_13_method_10_code 140 = .ok (.aload_n 0, 1) := by decide +kernel
theorem d_RM_table_141 : decode prog_13_method_10_code 141 = .ok (.getfield 17, 3) := by decide +kernel
theorem d_RM_table_144 : decode prog_13_method_10_code 144 = .ok (.sipush 256, 3) := by decide +kernel
theorem d_RM_table_147 : decode prog_13_method_10_code 147 = .ok (.iload_n 1, 1) := by decide +kernel
theorem d_RM_table_148 : decode prog_13_method_10_code 148 = .ok (.imul, 1) := by decide +kernel
theorem d_RM_table_149 : decode prog_13_method_10_code 149 = .ok (.iload_n 2, 1) := by decide +kernel
theorem d_RM_table_150 : decode prog_13_method_10_code 150 = .ok (.iadd, 1) := by decide +kernel
theorem d_RM_table_151 : decode prog_13_method_10_code 151 = .ok (.iload_n 3, 1) := by decide +kernel
theorem d_RM_table_152 : decode prog_13_method_10_code 152 = .ok (.iastore, 1) := by decide +kernel
theorem d_RM_table_153 : decode prog_13_method_10_code 153 = .ok (.iload 4, 2) := by decide +kernel
theorem d_RM_table_155 : decode prog_13_method_10_code 155 = .ok (.ireturn, 1) := by decide +kernel
def L_RM_table_96 (r0 : Nat) (b1 : Int32) (b2 : Int32) (b3 : Int32) (b4 : Int32) : Nat → Int32 → Mem →  Option (Int32 × Mem)
  | 0, _, _ => none
  | n + 1, a5, σ =>
  if (256 : Int32) ≤ a5 then
  some (a5, σ)
  else
  if inb b1 (wln (wtg r0 7)) = true then
  if (σ (wtg r0 7) b1.toNatClampNeg) = 0 then
  if inb (((256 : Int32) * b1) + a5) (wln (wtg r0 8)) = true then
  lt (mput σ (wtg r0 8) (((256 : Int32) * b1) + a5).toNatClampNeg (0 : Int32)) fun σ96 =>
  L_RM_table_96 r0 b1 b2 b3 b4 n (a5 + (1 : Int32)) σ96
  else none
  else
  some (a5, σ)
  else none
def f_RM_table (k0 : Nat) (x1 : Int32) (x2 : Int32) (x3 : Int32) (σ : Mem) : Option (Int32 × Mem) :=
  lt (mput σ k0 1 (if (σ k0 5) = 0 then (1 : Int32) else (if (f_RM_isComponent k0 x1 σ) = 0 then (2 : Int32) else (if (f_RM_isIn x2 (0 : Int32) (f_RM_topOf (σ k0 4) σ) σ) = 0 then (3 : Int32) else (if (f_RM_isIn x3 (0 : Int32) (65535 : Int32) σ) = 0 then (3 : Int32) else (0 : Int32)))))) fun σ9 =>
  if (σ9 k0 1) ≤ 0 then
  if inb x1 (wln (wtg k0 7)) = true then
  lt (fun (y89 : Int32) => 
  (L_RM_table_96 k0 x1 x2 x3 y89 9999 (0 : Int32) σ9).bind fun q97 =>
  if inb x1 (wln (wtg k0 7)) = true then
  lt (mput q97.2 (wtg k0 7) x1.toNatClampNeg (nz (1 : Int32))) fun σ99 =>
  if inb (((256 : Int32) * x1) + x2) (wln (wtg k0 8)) = true then
  lt (mput σ99 (wtg k0 8) (((256 : Int32) * x1) + x2).toNatClampNeg x3) fun σ101 =>
  some (y89, σ101)
  else none
  else none) fun K90 =>
  if (σ9 (wtg k0 7) x1.toNatClampNeg) = 0 then
  K90 (-1 : Int32)
  else
  if inb (((256 : Int32) * x1) + x2) (wln (wtg k0 8)) = true then
  K90 (σ9 (wtg k0 8) (((256 : Int32) * x1) + x2).toNatClampNeg)
  else none
  else none
  else
  some ((0 : Int32), σ9)
set_option maxHeartbeats 4000000 in
set_option maxRecDepth 100000 in
theorem wL_RM_table_96 {F : Fx} (C : Ctx F prog_13_method_10_code 6 "LineFramesModel" (some .int) 2 43) {cv : Option (Int32 × Mem) → Option Rs} (h0 : cv none = none) (r0 : Nat) (hr0 : Is r0 11) (b1 : Int32) (b2 : Int32) (b3 : Int32) (b4 : Int32) (hex : ∀ q : Int32 × Mem, J F 6 cv (some q) q.2 133 [(0, .ref (fad F r0)), (1, .int b1), (2, .int b2), (3, .int b3), (4, .int b4), (5, .int q.1)] []) : ∀ (n : Nat) (a5 : Int32) (σ : Mem), J F 6 cv (L_RM_table_96 r0 b1 b2 b3 b4 n a5 σ) σ 96 [(0, .ref (fad F r0)), (1, .int b1), (2, .int b2), (3, .int b3), (4, .int b4), (5, .int a5)] [] := by
  intro n
  induction n with
  | zero => intro a5 σ hE; rw [L_RM_table_96, h0] at hE; cases hE
  | succ n ih =>
    intro a5 σ
    rw [L_RM_table_96]
    refine j_iload C d_RM_table_96 5 rfl ?_
    refine j_sipush (v := (256 : Int32)) C d_RM_table_98 (by decide) ?_
    refine j_icmp_ge (tgt := 133) C d_RM_table_101 (by decide) (fun c92 => ?_) (fun c92 => ?_)
    · exact hex (a5, σ)
    · refine j_aload_n C d_RM_table_104 0 rfl ?_
      refine j_getR C hr0 fl_RM_13 rfl d_RM_table_105 ?_
      refine j_iload_n C d_RM_table_108 1 rfl ?_
      refine j_need (by exact h0) (fun g93 => ?_)
      refine j_zald C (tg_11_7 _ hr0) (inb_in g93) d_RM_table_109 ?_
      refine j_if_ne (tgt := 133) C d_RM_table_110 (by decide) (fun c94 => ?_) (fun c94 => ?_)
      · exact hex (a5, σ)
      · refine j_aload_n C d_RM_table_113 0 rfl ?_
        refine j_getR C hr0 fl_RM_17 rfl d_RM_table_114 ?_
        refine j_sipush (v := (256 : Int32)) C d_RM_table_117 (by decide) ?_
        refine j_iload_n C d_RM_table_120 1 rfl ?_
        refine j_imul C d_RM_table_121 ?_
        refine j_iload C d_RM_table_122 5 rfl ?_
        refine j_iadd C d_RM_table_124 ?_
        refine j_iconst (v := (0 : Int32)) C d_RM_table_125 (by decide) ?_
        refine j_need (by exact h0) (fun g95 => ?_)
        refine j_iast C (tg_11_8 _ hr0) (inb_in g95) d_RM_table_126 (fun σ96 => ?_)
        refine j_iinc (v := (a5 + (1 : Int32))) (lv9 := [(0, .ref (fad F r0)), (1, .int b1), (2, .int b2), (3, .int b3), (4, .int b4), (5, .int (a5 + (1 : Int32)))]) C d_RM_table_127 5 rfl rfl rfl rfl (by decide) ?_
        refine j_goto (tgt := 96) C d_RM_table_130 (by decide) ?_
        exact ih (a5 + (1 : Int32)) σ96
set_option maxHeartbeats 4000000 in
set_option maxRecDepth 100000 in
theorem w_RM_table {F : Fx} (C : Ctx F prog_13_method_10_code 6 "LineFramesModel" (some .int) 2 43) {k0 : Nat} (h0k : Is k0 11) (x1 : Int32) (x2 : Int32) (x3 : Int32) (σ : Mem) : J F 6 (cvO cvIM) (f_RM_table k0 x1 x2 x3 σ) σ 0 [(0, .ref (fad F k0)), (1, .int x1), (2, .int x2), (3, .int x3)] [] := by
  unfold f_RM_table
  refine j_aload_n C d_RM_table_0 0 rfl ?_
  refine j_aload_n C d_RM_table_1 0 rfl ?_
  refine j_getI C h0k fl_RM_110 rfl d_RM_table_2 ?_
  refine d_if_ne (a := (1 : Int32)) (b := (if (f_RM_isComponent k0 x1 σ) = 0 then (2 : Int32) else (if (f_RM_isIn x2 (0 : Int32) (f_RM_topOf (σ k0 4) σ) σ) = 0 then (3 : Int32) else (if (f_RM_isIn x3 (0 : Int32) (65535 : Int32) σ) = 0 then (3 : Int32) else (0 : Int32))))) (jp := 54) (tgt := 12) C d_RM_table_5 (by decide) (fun c1 k2 => ?_) (fun c1 k2 => ?_) ?_
  · refine j_aload_n C d_RM_table_12 0 rfl ?_
    refine j_iload_n C d_RM_table_13 1 rfl ?_
    refine j_callVi C mv_RM_125 [.int x1] [.ref (fad F k0)] h0k (c_RM_isComponent h0k x1 σ) rfl rfl (by decide) (Nat.le_of_ble_eq_true rfl) d_RM_table_14 ?_
    refine d_if_ne (a := (2 : Int32)) (b := (if (f_RM_isIn x2 (0 : Int32) (f_RM_topOf (σ k0 4) σ) σ) = 0 then (3 : Int32) else (if (f_RM_isIn x3 (0 : Int32) (65535 : Int32) σ) = 0 then (3 : Int32) else (0 : Int32)))) (jp := 54) (tgt := 24) C d_RM_table_17 (by decide) (fun c3 k4 => ?_) (fun c3 k4 => ?_) ?_
    · refine j_iload_n C d_RM_table_24 2 rfl ?_
      refine j_iconst (v := (0 : Int32)) C d_RM_table_25 (by decide) ?_
      refine j_aload_n C d_RM_table_26 0 rfl ?_
      refine j_getI C h0k fl_RM_107 rfl d_RM_table_27 ?_
      refine j_callSi C ms_RM_129 [.int (σ k0 4)] [.int (0 : Int32), .int x2, .ref (fad F k0)] (c_RM_topOf (σ k0 4) σ) rfl rfl (by decide) (Nat.le_of_ble_eq_true rfl) d_RM_table_30 ?_
      refine j_callSi C ms_RM_93 [.int x2, .int (0 : Int32), .int (f_RM_topOf (σ k0 4) σ)] [.ref (fad F k0)] (c_RM_isIn x2 (0 : Int32) (f_RM_topOf (σ k0 4) σ) σ) rfl rfl (by decide) (Nat.le_of_ble_eq_true rfl) d_RM_table_33 ?_
      refine d_if_eq (a := (3 : Int32)) (b := (if (f_RM_isIn x3 (0 : Int32) (65535 : Int32) σ) = 0 then (3 : Int32) else (0 : Int32))) (jp := 54) (tgt := 49) C d_RM_table_36 (by decide) (fun c5 k6 => ?_) (fun c5 k6 => ?_) ?_
      · refine j_iconst (v := (3 : Int32)) C d_RM_table_49 (by decide) ?_
        refine j_goto (tgt := 54) C d_RM_table_50 (by decide) ?_
        exact k6
      · refine j_iload_n C d_RM_table_39 3 rfl ?_
        refine j_iconst (v := (0 : Int32)) C d_RM_table_40 (by decide) ?_
        refine j_ldc (z := (65535 : Int32)) C (List.mem_of_getElem? (i := 1321) (by decide +kernel)) d_RM_table_41 ?_
        refine j_callSi C ms_RM_93 [.int x3, .int (0 : Int32), .int (65535 : Int32)] [.ref (fad F k0)] (c_RM_isIn x3 (0 : Int32) (65535 : Int32) σ) rfl rfl (by decide) (Nat.le_of_ble_eq_true rfl) d_RM_table_43 ?_
        refine d_if_ne (a := (3 : Int32)) (b := (0 : Int32)) (jp := 54) (tgt := 53) C d_RM_table_46 (by decide) (fun c7 k8 => ?_) (fun c7 k8 => ?_) ?_
        · refine j_iconst (v := (0 : Int32)) C d_RM_table_53 (by decide) ?_
          exact k8
        · refine j_iconst (v := (3 : Int32)) C d_RM_table_49 (by decide) ?_
          refine j_goto (tgt := 54) C d_RM_table_50 (by decide) ?_
          exact k8
        exact k6
      exact k4
    · refine j_iconst (v := (2 : Int32)) C d_RM_table_20 (by decide) ?_
      refine j_goto (tgt := 54) C d_RM_table_21 (by decide) ?_
      exact k4
    exact k2
  · refine j_iconst (v := (1 : Int32)) C d_RM_table_8 (by decide) ?_
    refine j_goto (tgt := 54) C d_RM_table_9 (by decide) ?_
    exact k2
  refine j_put C h0k fl_RM_90 fw_11_1 rfl rfl rfl d_RM_table_54 (fun σ9 => ?_)
  refine j_aload_n C d_RM_table_57 0 rfl ?_
  refine j_getI C h0k fl_RM_90 rfl d_RM_table_58 ?_
  refine j_if_le (tgt := 66) C d_RM_table_61 (by decide) (fun c10 => ?_) (fun c10 => ?_)
  · refine j_aload_n C d_RM_table_66 0 rfl ?_
    refine j_getR C h0k fl_RM_13 rfl d_RM_table_67 ?_
    refine j_iload_n C d_RM_table_70 1 rfl ?_
    refine j_need rfl (fun g11 => ?_)
    refine j_zald C (tg_11_7 _ h0k) (inb_in g11) d_RM_table_71 ?_
    refine j_join1 91 (fun _ => [(0, .ref (fad F k0)), (1, .int x1), (2, .int x2), (3, .int x3)]) (fun y89 => [.int y89]) (fun y89 => ?_) (fun K90 H91 => ?_)
    · refine j_istore (lv9 := [(0, .ref (fad F k0)), (1, .int x1), (2, .int x2), (3, .int x3), (4, .int y89)]) C d_RM_table_91 rfl rfl (by decide) ?_
      refine j_iconst (v := (0 : Int32)) C d_RM_table_93 (by decide) ?_
      refine j_istore (lv9 := [(0, .ref (fad F k0)), (1, .int x1), (2, .int x2), (3, .int x3), (4, .int y89), (5, .int (0 : Int32))]) C d_RM_table_94 rfl rfl (by decide) ?_
      refine j_loop (wL_RM_table_96 C rfl k0 h0k x1 x2 x3 y89 (fun q97 => j_some ?_) 9999 (0 : Int32) σ9)
      refine j_aload_n C d_RM_table_133 0 rfl ?_
      refine j_getR C h0k fl_RM_13 rfl d_RM_table_134 ?_
      refine j_iload_n C d_RM_table_137 1 rfl ?_
      refine j_iconst (v := (1 : Int32)) C d_RM_table_138 (by decide) ?_
      refine j_need rfl (fun g98 => ?_)
      refine j_zast C (tg_11_7 _ h0k) (inb_in g98) d_RM_table_139 (fun σ99 => ?_)
      refine j_aload_n C d_RM_table_140 0 rfl ?_
      refine j_getR C h0k fl_RM_17 rfl d_RM_table_141 ?_
      refine j_sipush (v := (256 : Int32)) C d_RM_table_144 (by decide) ?_
      refine j_iload_n C d_RM_table_147 1 rfl ?_
      refine j_imul C d_RM_table_148 ?_
      refine j_iload_n C d_RM_table_149 2 rfl ?_
      refine j_iadd C d_RM_table_150 ?_
      refine j_iload_n C d_RM_table_151 3 rfl ?_
      refine j_need rfl (fun g100 => ?_)
      refine j_iast C (tg_11_8 _ h0k) (inb_in g100) d_RM_table_152 (fun σ101 => ?_)
      refine j_iload C d_RM_table_153 4 rfl ?_
      exact j_ireti C (fun ρ h => leaf_eq h) d_RM_table_155
    · refine j_if_eq (tgt := 90) C d_RM_table_72 (by decide) (fun c102 => ?_) (fun c102 => ?_)
      · refine j_iconst (v := (-1 : Int32)) C d_RM_table_90 (by decide) ?_
        exact H91 (-1 : Int32)
      · refine j_aload_n C d_RM_table_75 0 rfl ?_
        refine j_getR C h0k fl_RM_17 rfl d_RM_table_76 ?_
        refine j_sipush (v := (256 : Int32)) C d_RM_table_79 (by decide) ?_
        refine j_iload_n C d_RM_table_82 1 rfl ?_
        refine j_imul C d_RM_table_83 ?_
        refine j_iload_n C d_RM_table_84 2 rfl ?_
        refine j_iadd C d_RM_table_85 ?_
        refine j_need rfl (fun g103 => ?_)
        refine j_iald C (tg_11_8 _ h0k) (inb_in g103) d_RM_table_86 ?_
        refine j_goto (tgt := 91) C d_RM_table_87 (by decide) ?_
        exact H91 (σ9 (wtg k0 8) (((256 : Int32) * x1) + x2).toNatClampNeg)
  · refine j_iconst (v := (0 : Int32)) C d_RM_table_64 (by decide) ?_
    exact j_ireti C (fun ρ h => leaf_eq h) d_RM_table_65
theorem c_RM_table {l : Launch} {D : va_G} {G : GC} {ad : Nat → Nat} {k0 : Nat} (h0k : Is k0 11) (x1 : Int32) (x2 : Int32) (x3 : Int32) (σ : Mem) {q : Int32 × Mem} (hq : f_RM_table k0 x1 x2 x3 σ = some q) : Ctr l D G ad ⟨"LineFramesModel", "table", "(III)I"⟩ prog_13_method_10_code 6 (some .int) 2 43 [.ref (ad k0), .int x1, .int x2, .int x3] σ (.inl (some (.int q.1)), q.2) := ctr_J (cv := (cvO cvIM)) (E := f_RM_table k0 x1 x2 x3 σ) (by decide +kernel) (Nat.le_of_ble_eq_true rfl) (by rw [hq]; rfl) (fun F h C => by subst h; exact w_RM_table C h0k x1 x2 x3 σ)
/-! LineFramesModel note (I)I -/
theorem d_RM_note_0 : decode prog_13_method_11_code 0 = .ok (.aload_n 0, 1) := by decide +kernel
theorem d_RM_note_1 : decode prog_13_method_11_code 1 = .ok (.aload_n 0, 1) := by decide +kernel
theorem d_RM_note_2 : decode prog_13_method_11_code 2 = .ok (.getfield 110, 3) := by decide +kernel
theorem d_RM_note_5 : decode prog_13_method_11_code 5 = .ok (.ifCond .ne 7, 3) := by decide +kernel
theorem d_RM_note_8 : decode prog_13_method_11_code 8 = .ok (.iconst 1, 1) := by decide +kernel
theorem d_RM_note_9 : decode prog_13_method_11_code 9 = .ok (.goto 31, 3) := by decide +kernel
theorem d_RM_note_12 : decode prog_13_method_11_code 12 = .ok (.iload_n 1, 1) := by decide +kernel
theorem d_RM_note_13 : decode prog_13_method_11_code 13 = .ok (.iconst 0, 1) := by decide +kernel
theorem d_RM_note_14 : decode prog_13_method_11_code 14 = .ok (.bipush 16, 2) := by decide +kernel
theorem d_RM_note_16 : decode prog_13_method_11_code 16 = .ok (.invokestatic 93, 3) := by decide +kernel
theorem d_RM_note_19 : decode prog_13_method_11_code 19 = .ok (.ifCond .ne 7, 3) := by decide +kernel
theorem d_RM_note_22 : decode prog_13_method_11_code 22 = .ok (.iconst 2, 1) := by decide +kernel
theorem d_RM_note_23 : decode prog_13_method_11_code 23 = .ok (.goto 17, 3) := by decide +kernel
theorem d_RM_note_26 : decode prog_13_method_11_code 26 = .ok (.aload_n 0, 1) := by decide +kernel
theorem d_RM_note_27 : decode prog_13_method_11_code 27 = .ok (.getfield 122, 3) := by decide +kernel
theorem d_RM_note_30 : decode prog_13_method_11_code 30 = .ok (.bipush 6, 2) := by decide +kernel
theorem d_RM_note_32 : decode prog_13_method_11_code 32 = .ok (.if_icmp .ne 7, 3) := by decide +kernel
theorem d_RM_note_35 : decode prog_13_method_11_code 35 = .ok (.iconst 3, 1) := by decide +kernel
theorem d_RM_note_36 : decode prog_13_method_11_code 36 = .ok (.goto 4, 3) := by decide +kernel
theorem d_RM_note_39 : decode prog_13_method_11_code 39 = .ok (.iconst 0, 1) := by decide +kernel
theorem d_RM_note_40 : decode prog_13_method_11_code 40 = .ok (.putfield 90, 3) := by decide +kernel
theorem d_RM_note_43 : decode prog_13_method_11_code 43 = .ok (.aload_n 0, 1) := by decide +kernel
theorem d_RM_note_44 : decode prog_13_method_11_code 44 = .ok (.getfield 90, 3) := by decide +kernel
theorem d_RM_note_47 : decode prog_13_method_11_code 47 = .ok (.ifCond .le 5, 3) := by decide +kernel
theorem d_RM_note_50 : decode prog_13_method_11_code 50 = .ok (.iconst 0, 1) := by decide +kernel
theorem d_RM_note_51 : decode prog_13_method_11_code 51 = .ok (.ireturn, 1) := by decide +kernel
theorem d_RM_note_52 : decode prog_13_method_11_code 52 = .ok (.aload_n 0, 1) := by decide +kernel
theorem d_RM_note_53 : decode prog_13_method_11_code 53 = .ok (.getfield 20, 3) := by decide +kernel
theorem d_RM_note_56 : decode prog_13_method_11_code 56 = .ok (.aload_n 0, 1) := by decide +kernel
theorem d_RM_note_57 : decode prog_13_method_11_code 57 = .ok (.getfield 122, 3) := by decide +kernel
theorem d_RM_note_60 : decode prog_13_method_11_code 60 = .ok (.iload_n 1, 1) := by decide +kernel
theorem d_RM_note_61 : decode prog_13_method_11_code 61 = .ok (.iastore, 1) := by decide +kernel
theorem d_RM_note_62 : decode prog_13_method_11_code 62 = .ok (.aload_n 0, 1) := by decide +kernel
theorem d_RM_note_63 : decode prog_13_method_11_code 63 = .ok (.getfield 23, 3) := by decide +kernel
theorem d_RM_note_66 : decode prog_13_method_11_code 66 = .ok (.aload_n 0, 1) := by decide +kernel
theorem d_RM_note_67 : decode prog_13_method_11_code 67 = .ok (.getfield 122, 3) := by decide +kernel
theorem d_RM_note_70 : decode prog_13_method_11_code 70 = .ok (.iconst 0, 1) := by decide +kernel
theorem d_RM_note_71 : decode prog_13_method_11_code 71 = .ok (.iastore, 1) := by decide +kernel
theorem d_RM_note_72 : decode prog_13_method_11_code 72 = .ok (.aload_n 0, 1) := by decide +kernel
theorem d_RM_note_73 : decode prog_13_method_11_code 73 = .ok (.dup, 1) := by decide +kernel
theorem d_RM_note_74 : decode prog_13_method_11_code 74 = .ok (.getfield 122, 3) := by decide +kernel
theorem d_RM_note_77 : decode prog_13_method_11_code 77 = .ok (.iconst 1, 1) := by decide +kernel
theorem d_RM_note_78 : decode prog_13_method_11_code 78 = .ok (.iadd, 1) := by decide +kernel
theorem d_RM_note_79 : decode prog_13_method_11_code 79 = .ok (.putfield 122, 3) := by decide +kernel
theorem d_RM_note_82 : decode prog_13_method_11_code 82 = .ok (.aload_n 0, 1) := by decide +kernel
theorem d_RM_note_83 : decode prog_13_method_11_code 83 = .ok (.getfield 122, 3) := by decide +kernel
theorem d_RM_note_86 : decode prog_13_method_11_code 86 = .ok (.iconst 1, 1) := by decide +kernel
theorem d_RM_note_87 : decode prog_13_method_11_code 87 = .ok (.isub, 1) := by decide +kernel
theorem d_RM_note_88 : decode prog_13_method_11_code 88 = .ok (.ireturn, 1) := by decide +kernel
def f_RM_note (k0 : Nat) (x1 : Int32) (σ : Mem) : Option (Int32 × Mem) :=
  lt (mput σ k0 1 (if (σ k0 5) = 0 then (1 : Int32) else (if (f_RM_isIn x1 (0 : Int32) (16 : Int32) σ) = 0 then (2 : Int32) else (if (σ k0 12) = (6 : Int32) then (3 : Int32) else (0 : Int32))))) fun σ7 =>
  if (σ7 k0 1) ≤ 0 then
  if inb (σ7 k0 12) (wln (wtg k0 13)) = true then
  lt (mput σ7 (wtg k0 13) (σ7 k0 12).toNatClampNeg x1) fun σ10 =>
  if inb (σ10 k0 12) (wln (wtg k0 14)) = true then
  lt (mput σ10 (wtg k0 14) (σ10 k0 12).toNatClampNeg (0 : Int32)) fun σ12 =>
  lt (mput σ12 k0 12 ((σ12 k0 12) + (1 : Int32))) fun σ13 =>
  some (((σ13 k0 12) - (1 : Int32)), σ13)
  else none
  else none
  else
  some ((0 : Int32), σ7)
set_option maxHeartbeats 4000000 in
set_option maxRecDepth 100000 in
theorem w_RM_note {F : Fx} (C : Ctx F prog_13_method_11_code 2 "LineFramesModel" (some .int) 1 22) {k0 : Nat} (h0k : Is k0 11) (x1 : Int32) (σ : Mem) : J F 2 (cvO cvIM) (f_RM_note k0 x1 σ) σ 0 [(0, .ref (fad F k0)), (1, .int x1)] [] := by
  unfold f_RM_note
  refine j_aload_n C d_RM_note_0 0 rfl ?_
  refine j_aload_n C d_RM_note_1 0 rfl ?_
  refine j_getI C h0k fl_RM_110 rfl d_RM_note_2 ?_
  refine d_if_ne (a := (1 : Int32)) (b := (if (f_RM_isIn x1 (0 : Int32) (16 : Int32) σ) = 0 then (2 : Int32) else (if (σ k0 12) = (6 : Int32) then (3 : Int32) else (0 : Int32)))) (jp := 40) (tgt := 12) C d_RM_note_5 (by decide) (fun c1 k2 => ?_) (fun c1 k2 => ?_) ?_
  · refine j_iload_n C d_RM_note_12 1 rfl ?_
    refine j_iconst (v := (0 : Int32)) C d_RM_note_13 (by decide) ?_
    refine j_bipush (v := (16 : Int32)) C d_RM_note_14 (by decide) ?_
    refine j_callSi C ms_RM_93 [.int x1, .int (0 : Int32), .int (16 : Int32)] [.ref (fad F k0)] (c_RM_isIn x1 (0 : Int32) (16 : Int32) σ) rfl rfl (by decide) (Nat.le_of_ble_eq_true rfl) d_RM_note_16 ?_
    refine d_if_ne (a := (2 : Int32)) (b := (if (σ k0 12) = (6 : Int32) then (3 : Int32) else (0 : Int32))) (jp := 40) (tgt := 26) C d_RM_note_19 (by decide) (fun c3 k4 => ?_) (fun c3 k4 => ?_) ?_
    · refine j_aload_n C d_RM_note_26 0 rfl ?_
      refine j_getI C h0k fl_RM_122 rfl d_RM_note_27 ?_
      refine j_bipush (v := (6 : Int32)) C d_RM_note_30 (by decide) ?_
      refine d_icmp_ne (a := (3 : Int32)) (b := (0 : Int32)) (jp := 40) (tgt := 39) C d_RM_note_32 (by decide) (fun c5 k6 => ?_) (fun c5 k6 => ?_) ?_
      · refine j_iconst (v := (0 : Int32)) C d_RM_note_39 (by decide) ?_
        exact k6
      · refine j_iconst (v := (3 : Int32)) C d_RM_note_35 (by decide) ?_
        refine j_goto (tgt := 40) C d_RM_note_36 (by decide) ?_
        exact k6
      exact k4
    · refine j_iconst (v := (2 : Int32)) C d_RM_note_22 (by decide) ?_
      refine j_goto (tgt := 40) C d_RM_note_23 (by decide) ?_
      exact k4
    exact k2
  · refine j_iconst (v := (1 : Int32)) C d_RM_note_8 (by decide) ?_
    refine j_goto (tgt := 40) C d_RM_note_9 (by decide) ?_
    exact k2
  refine j_put C h0k fl_RM_90 fw_11_1 rfl rfl rfl d_RM_note_40 (fun σ7 => ?_)
  refine j_aload_n C d_RM_note_43 0 rfl ?_
  refine j_getI C h0k fl_RM_90 rfl d_RM_note_44 ?_
  refine j_if_le (tgt := 52) C d_RM_note_47 (by decide) (fun c8 => ?_) (fun c8 => ?_)
  · refine j_aload_n C d_RM_note_52 0 rfl ?_
    refine j_getR C h0k fl_RM_20 rfl d_RM_note_53 ?_
    refine j_aload_n C d_RM_note_56 0 rfl ?_
    refine j_getI C h0k fl_RM_122 rfl d_RM_note_57 ?_
    refine j_iload_n C d_RM_note_60 1 rfl ?_
    refine j_need rfl (fun g9 => ?_)
    refine j_iast C (tg_11_13 _ h0k) (inb_in g9) d_RM_note_61 (fun σ10 => ?_)
    refine j_aload_n C d_RM_note_62 0 rfl ?_
    refine j_getR C h0k fl_RM_23 rfl d_RM_note_63 ?_
    refine j_aload_n C d_RM_note_66 0 rfl ?_
    refine j_getI C h0k fl_RM_122 rfl d_RM_note_67 ?_
    refine j_iconst (v := (0 : Int32)) C d_RM_note_70 (by decide) ?_
    refine j_need rfl (fun g11 => ?_)
    refine j_iast C (tg_11_14 _ h0k) (inb_in g11) d_RM_note_71 (fun σ12 => ?_)
    refine j_aload_n C d_RM_note_72 0 rfl ?_
    refine j_dup C d_RM_note_73 rfl ?_
    refine j_getI C h0k fl_RM_122 rfl d_RM_note_74 ?_
    refine j_iconst (v := (1 : Int32)) C d_RM_note_77 (by decide) ?_
    refine j_iadd C d_RM_note_78 ?_
    refine j_put C h0k fl_RM_122 fw_11_12 rfl rfl rfl d_RM_note_79 (fun σ13 => ?_)
    refine j_aload_n C d_RM_note_82 0 rfl ?_
    refine j_getI C h0k fl_RM_122 rfl d_RM_note_83 ?_
    refine j_iconst (v := (1 : Int32)) C d_RM_note_86 (by decide) ?_
    refine j_isub C d_RM_note_87 ?_
    exact j_ireti C (fun ρ h => leaf_eq h) d_RM_note_88
  · refine j_iconst (v := (0 : Int32)) C d_RM_note_50 (by decide) ?_
    exact j_ireti C (fun ρ h => leaf_eq h) d_RM_note_51
theorem c_RM_note {l : Launch} {D : va_G} {G : GC} {ad : Nat → Nat} {k0 : Nat} (h0k : Is k0 11) (x1 : Int32) (σ : Mem) {q : Int32 × Mem} (hq : f_RM_note k0 x1 σ = some q) : Ctr l D G ad ⟨"LineFramesModel", "note", "(I)I"⟩ prog_13_method_11_code 2 (some .int) 1 22 [.ref (ad k0), .int x1] σ (.inl (some (.int q.1)), q.2) := ctr_J (cv := (cvO cvIM)) (E := f_RM_note k0 x1 σ) (by decide +kernel) (Nat.le_of_ble_eq_true rfl) (by rw [hq]; rfl) (fun F h C => by subst h; exact w_RM_note C h0k x1 σ)
