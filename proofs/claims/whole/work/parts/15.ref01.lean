/-! LineFramesModel byteOf (II)I -/
theorem d_RM_byteOf_0 : decode prog_13_method_12_code 0 = .ok (.aload_n 0, 1) := by decide +kernel
theorem d_RM_byteOf_1 : decode prog_13_method_12_code 1 = .ok (.aload_n 0, 1) := by decide +kernel
theorem d_RM_byteOf_2 : decode prog_13_method_12_code 2 = .ok (.getfield 110, 3) := by decide +kernel
theorem d_RM_byteOf_5 : decode prog_13_method_12_code 5 = .ok (.ifCond .ne 7, 3) := by decide +kernel
theorem d_RM_byteOf_8 : decode prog_13_method_12_code 8 = .ok (.iconst 1, 1) := by decide +kernel
theorem d_RM_byteOf_9 : decode prog_13_method_12_code 9 = .ok (.goto 52, 3) := by decide +kernel
theorem d_RM_byteOf_12 : decode prog_13_method_12_code 12 = .ok (.iload_n 1, 1) := by decide +kernel
theorem d_RM_byteOf_13 : decode prog_13_method_12_code 13 = .ok (.iconst 0, 1) := by decide +kernel
theorem d_RM_byteOf_14 : decode prog_13_method_12_code 14 = .ok (.aload_n 0, 1) := by decide +kernel
theorem d_RM_byteOf_15 : decode prog_13_method_12_code 15 = .ok (.getfield 122, 3) := by decide +kernel
theorem d_RM_byteOf_18 : decode prog_13_method_12_code 18 = .ok (.iconst 1, 1) := by decide +kernel
theorem d_RM_byteOf_19 : decode prog_13_method_12_code 19 = .ok (.isub, 1) := by decide +kernel
theorem d_RM_byteOf_20 : decode prog_13_method_12_code 20 = .ok (.invokestatic 93, 3) := by decide +kernel
theorem d_RM_byteOf_23 : decode prog_13_method_12_code 23 = .ok (.ifCond .ne 7, 3) := by decide +kernel
theorem d_RM_byteOf_26 : decode prog_13_method_12_code 26 = .ok (.iconst 2, 1) := by decide +kernel
theorem d_RM_byteOf_27 : decode prog_13_method_12_code 27 = .ok (.goto 34, 3) := by decide +kernel
theorem d_RM_byteOf_30 : decode prog_13_method_12_code 30 = .ok (.iload_n 2, 1) := by decide +kernel
theorem d_RM_byteOf_31 : decode prog_13_method_12_code 31 = .ok (.iconst 0, 1) := by decide +kernel
theorem d_RM_byteOf_32 : decode prog_13_method_12_code 32 = .ok (.sipush 255, 3) := by decide +kernel
theorem d_RM_byteOf_35 : decode prog_13_method_12_code 35 = .ok (.invokestatic 93, 3) := by decide +kernel
theorem d_RM_byteOf_38 : decode prog_13_method_12_code 38 = .ok (.ifCond .ne 7, 3) := by decide +kernel
theorem d_RM_byteOf_41 : decode prog_13_method_12_code 41 = .ok (.iconst 3, 1) := by decide +kernel
theorem d_RM_byteOf_42 : decode prog_13_method_12_code 42 = .ok (.goto 19, 3) := by decide +kernel
theorem d_RM_byteOf_45 : decode prog_13_method_12_code 45 = .ok (.aload_n 0, 1) := by decide +kernel
theorem d_RM_byteOf_46 : decode prog_13_method_12_code 46 = .ok (.getfield 23, 3) := by decide +kernel
theorem d_RM_byteOf_49 : decode prog_13_method_12_code 49 = .ok (.iload_n 1, 1) := by decide +kernel
theorem d_RM_byteOf_50 : decode prog_13_method_12_code 50 = .ok (.iaload, 1) := by decide +kernel
theorem d_RM_byteOf_51 : decode prog_13_method_12_code 51 = .ok (.bipush 30, 2) := by decide +kernel
theorem d_RM_byteOf_53 : decode prog_13_method_12_code 53 = .ok (.if_icmp .ne 7, 3) := by decide +kernel
theorem d_RM_byteOf_56 : decode prog_13_method_12_code 56 = .ok (.iconst 4, 1) := by decide +kernel
theorem d_RM_byteOf_57 : decode prog_13_method_12_code 57 = .ok (.goto 4, 3) := by decide +kernel
theorem d_RM_byteOf_60 : decode prog_13_method_12_code 60 = .ok (.iconst 0, 1) := by decide +kernel
theorem d_RM_byteOf_61 : decode prog_13_method_12_code 61 = .ok (.putfield 90, 3) := by decide +kernel
theorem d_RM_byteOf_64 : decode prog_13_method_12_code 64 = .ok (.aload_n 0, 1) := by decide +kernel
theorem d_RM_byteOf_65 : decode prog_13_method_12_code 65 = .ok (.getfield 90, 3) := by decide +kernel
theorem d_RM_byteOf_68 : decode prog_13_method_12_code 68 = .ok (.ifCond .le 5, 3) := by decide +kernel
theorem d_RM_byteOf_71 : decode prog_13_method_12_code 71 = .ok (.iconst 0, 1) := by decide +kernel
theorem d_RM_byteOf_72 : decode prog_13_method_12_code 72 = .ok (.ireturn, 1) := by decide +kernel
theorem d_RM_byteOf_73 : decode prog_13_method_12_code 73 = .ok (.aload_n 0, 1) := by decide +kernel
theorem d_RM_byteOf_74 : decode prog_13_method_12_code 74 = .ok (.getfield 26, 3) := by decide +kernel
theorem d_RM_byteOf_77 : decode prog_13_method_12_code 77 = .ok (.bipush 30, 2) := by decide +kernel
theorem d_RM_byteOf_79 : decode prog_13_method_12_code 79 = .ok (.iload_n 1, 1) := by decide +kernel
theorem d_RM_byteOf_80 : decode prog_13_method_12_code 80 = .ok (.imul, 1) := by decide +kernel
theorem d_RM_byteOf_81 : decode prog_13_method_12_code 81 = .ok (.aload_n 0, 1) := by decide +kernel
theorem d_RM_byteOf_82 : decode prog_13_method_12_code 82 = .ok (.getfield 23, 3) := by decide +kernel
theorem d_RM_byteOf_85 : decode prog_13_method_12_code 85 = .ok (.iload_n 1, 1) := by decide +kernel
theorem d_RM_byteOf_86 : decode prog_13_method_12_code 86 = .ok (.iaload, 1) := by decide +kernel
theorem d_RM_byteOf_87 : decode prog_13_method_12_code 87 = .ok (.iadd, 1) := by decide +kernel
theorem d_RM_byteOf_88 : decode prog_13_method_12_code 88 = .ok (.iload_n 2, 1) := by decide +kernel
theorem d_RM_byteOf_89 : decode prog_13_method_12_code 89 = .ok (.iastore, 1) := by decide +kernel
theorem d_RM_byteOf_90 : decode prog_13_method_12_code 90 = .ok (.aload_n 0, 1) := by decide +kernel
theorem d_RM_byteOf_91 : decode prog_13_method_12_code 91 = .ok (.getfield 23, 3) := by decide +kernel
theorem d_RM_byteOf_94 : decode prog_13_method_12_code 94 = .ok (.iload_n 1, 1) := by decide +kernel
theorem d_RM_byteOf_95 : decode prog_13_method_12_code 95 = .ok (.dup2, 1) := by decide +kernel
theorem d_RM_byteOf_96 : decode prog_13_method_12_code 96 = .ok (.iaload, 1) := by decide +kernel
theorem d_RM_byteOf_97 : decode prog_13_method_12_code 97 = .ok (.iconst 1, 1) := by decide +kernel
theorem d_RM_byteOf_98 : decode prog_13_method_12_code 98 = .ok (.iadd, 1) := by decide +kernel
theorem d_RM_byteOf_99 : decode prog_13_method_12_code 99 = .ok (.iastore, 1) := by decide +kernel
theorem d_RM_byteOf_100 : decode prog_13_method_12_code 100 = .ok (.aload_n 0, 1) := by decide +kernel
theorem d_RM_byteOf_101 : decode prog_13_method_12_code 101 = .ok (.getfield 23, 3) := by decide +kernel
theorem d_RM_byteOf_104 : decode prog_13_method_12_code 104 = .ok (.iload_n 1, 1) := by decide +kernel
theorem d_RM_byteOf_105 : decode prog_13_method_12_code 105 = .ok (.iaload, 1) := by decide +kernel
theorem d_RM_byteOf_106 : decode prog_13_method_12_code 106 = .ok (.ireturn, 1) := by decide +kernel
def f_RM_byteOf (k0 : Nat) (x1 : Int32) (x2 : Int32) (σ : Mem) : Option (Int32 × Mem) :=
  lt (fun (y188 : Int32) => 
  lt (mput σ k0 1 y188) fun σ191 =>
  if (σ191 k0 1) ≤ 0 then
  if inb x1 (wln (wtg k0 14)) = true then
  if inb (((30 : Int32) * x1) + (σ191 (wtg k0 14) x1.toNatClampNeg)) (wln (wtg k0 15)) = true then
  lt (mput σ191 (wtg k0 15) (((30 : Int32) * x1) + (σ191 (wtg k0 14) x1.toNatClampNeg)).toNatClampNeg x2) fun σ195 =>
  if inb x1 (wln (wtg k0 14)) = true then
  if inb x1 (wln (wtg k0 14)) = true then
  lt (mput σ195 (wtg k0 14) x1.toNatClampNeg ((σ195 (wtg k0 14) x1.toNatClampNeg) + (1 : Int32))) fun σ198 =>
  if inb x1 (wln (wtg k0 14)) = true then
  some ((σ198 (wtg k0 14) x1.toNatClampNeg), σ198)
  else none
  else none
  else none
  else none
  else none
  else
  some ((0 : Int32), σ191)) fun K189 =>
  if (σ k0 5) = 0 then
  K189 (1 : Int32)
  else
  if (f_RM_isIn x1 (0 : Int32) ((σ k0 12) - (1 : Int32)) σ) = 0 then
  K189 (2 : Int32)
  else
  if (f_RM_isIn x2 (0 : Int32) (255 : Int32) σ) = 0 then
  K189 (3 : Int32)
  else
  if inb x1 (wln (wtg k0 14)) = true then
  if (σ (wtg k0 14) x1.toNatClampNeg) = (30 : Int32) then
  K189 (4 : Int32)
  else
  K189 (0 : Int32)
  else none
set_option maxHeartbeats 4000000 in
set_option maxRecDepth 100000 in
theorem w_RM_byteOf {F : Fx} (C : Ctx F prog_13_method_12_code 3 "LineFramesModel" (some .int) 1 22) {k0 : Nat} (h0k : Is k0 11) (x1 : Int32) (x2 : Int32) (σ : Mem) : J F 3 (cvO cvIM) (f_RM_byteOf k0 x1 x2 σ) σ 0 [(0, .ref (fad F k0)), (1, .int x1), (2, .int x2)] [] := by
  unfold f_RM_byteOf
  refine j_aload_n C d_RM_byteOf_0 0 rfl ?_
  refine j_aload_n C d_RM_byteOf_1 0 rfl ?_
  refine j_getI C h0k fl_RM_110 rfl d_RM_byteOf_2 ?_
  refine j_join1 61 (fun _ => [(0, .ref (fad F k0)), (1, .int x1), (2, .int x2)]) (fun y188 => [.int y188, .ref (fad F k0)]) (fun y188 => ?_) (fun K189 H190 => ?_)
  · refine j_put C h0k fl_RM_90 fw_11_1 rfl rfl rfl d_RM_byteOf_61 (fun σ191 => ?_)
    refine j_aload_n C d_RM_byteOf_64 0 rfl ?_
    refine j_getI C h0k fl_RM_90 rfl d_RM_byteOf_65 ?_
    refine j_if_le (tgt := 73) C d_RM_byteOf_68 (by decide) (fun c192 => ?_) (fun c192 => ?_)
    · refine j_aload_n C d_RM_byteOf_73 0 rfl ?_
      refine j_getR C h0k fl_RM_26 rfl d_RM_byteOf_74 ?_
      refine j_bipush (v := (30 : Int32)) C d_RM_byteOf_77 (by decide) ?_
      refine j_iload_n C d_RM_byteOf_79 1 rfl ?_
      refine j_imul C d_RM_byteOf_80 ?_
      refine j_aload_n C d_RM_byteOf_81 0 rfl ?_
      refine j_getR C h0k fl_RM_23 rfl d_RM_byteOf_82 ?_
      refine j_iload_n C d_RM_byteOf_85 1 rfl ?_
      refine j_need rfl (fun g193 => ?_)
      refine j_iald C (tg_11_14 _ h0k) (inb_in g193) d_RM_byteOf_86 ?_
      refine j_iadd C d_RM_byteOf_87 ?_
      refine j_iload_n C d_RM_byteOf_88 2 rfl ?_
      refine j_need rfl (fun g194 => ?_)
      refine j_iast C (tg_11_15 _ h0k) (inb_in g194) d_RM_byteOf_89 (fun σ195 => ?_)
      refine j_aload_n C d_RM_byteOf_90 0 rfl ?_
      refine j_getR C h0k fl_RM_23 rfl d_RM_byteOf_91 ?_
      refine j_iload_n C d_RM_byteOf_94 1 rfl ?_
      refine j_dup2 C d_RM_byteOf_95 rfl rfl ?_
      refine j_need rfl (fun g196 => ?_)
      refine j_iald C (tg_11_14 _ h0k) (inb_in g196) d_RM_byteOf_96 ?_
      refine j_iconst (v := (1 : Int32)) C d_RM_byteOf_97 (by decide) ?_
      refine j_iadd C d_RM_byteOf_98 ?_
      refine j_need rfl (fun g197 => ?_)
      refine j_iast C (tg_11_14 _ h0k) (inb_in g197) d_RM_byteOf_99 (fun σ198 => ?_)
      refine j_aload_n C d_RM_byteOf_100 0 rfl ?_
      refine j_getR C h0k fl_RM_23 rfl d_RM_byteOf_101 ?_
      refine j_iload_n C d_RM_byteOf_104 1 rfl ?_
      refine j_need rfl (fun g199 => ?_)
      refine j_iald C (tg_11_14 _ h0k) (inb_in g199) d_RM_byteOf_105 ?_
      exact j_ireti C (fun ρ h => leaf_eq h) d_RM_byteOf_106
    · refine j_iconst (v := (0 : Int32)) C d_RM_byteOf_71 (by decide) ?_
      exact j_ireti C (fun ρ h => leaf_eq h) d_RM_byteOf_72
  · refine j_if_ne (tgt := 12) C d_RM_byteOf_5 (by decide) (fun c200 => ?_) (fun c200 => ?_)
    · refine j_iload_n C d_RM_byteOf_12 1 rfl ?_
      refine j_iconst (v := (0 : Int32)) C d_RM_byteOf_13 (by decide) ?_
      refine j_aload_n C d_RM_byteOf_14 0 rfl ?_
      refine j_getI C h0k fl_RM_122 rfl d_RM_byteOf_15 ?_
      refine j_iconst (v := (1 : Int32)) C d_RM_byteOf_18 (by decide) ?_
      refine j_isub C d_RM_byteOf_19 ?_
      refine j_callSi C ms_RM_93 [.int x1, .int (0 : Int32), .int ((σ k0 12) - (1 : Int32))] [.ref (fad F k0)] (c_RM_isIn x1 (0 : Int32) ((σ k0 12) - (1 : Int32)) σ) rfl rfl (by decide) (Nat.le_of_ble_eq_true rfl) d_RM_byteOf_20 ?_
      refine j_if_ne (tgt := 30) C d_RM_byteOf_23 (by decide) (fun c201 => ?_) (fun c201 => ?_)
      · refine j_iload_n C d_RM_byteOf_30 2 rfl ?_
        refine j_iconst (v := (0 : Int32)) C d_RM_byteOf_31 (by decide) ?_
        refine j_sipush (v := (255 : Int32)) C d_RM_byteOf_32 (by decide) ?_
        refine j_callSi C ms_RM_93 [.int x2, .int (0 : Int32), .int (255 : Int32)] [.ref (fad F k0)] (c_RM_isIn x2 (0 : Int32) (255 : Int32) σ) rfl rfl (by decide) (Nat.le_of_ble_eq_true rfl) d_RM_byteOf_35 ?_
        refine j_if_ne (tgt := 45) C d_RM_byteOf_38 (by decide) (fun c202 => ?_) (fun c202 => ?_)
        · refine j_aload_n C d_RM_byteOf_45 0 rfl ?_
          refine j_getR C h0k fl_RM_23 rfl d_RM_byteOf_46 ?_
          refine j_iload_n C d_RM_byteOf_49 1 rfl ?_
          refine j_need rfl (fun g203 => ?_)
          refine j_iald C (tg_11_14 _ h0k) (inb_in g203) d_RM_byteOf_50 ?_
          refine j_bipush (v := (30 : Int32)) C d_RM_byteOf_51 (by decide) ?_
          refine j_icmp_ne (tgt := 60) C d_RM_byteOf_53 (by decide) (fun c204 => ?_) (fun c204 => ?_)
          · refine j_iconst (v := (0 : Int32)) C d_RM_byteOf_60 (by decide) ?_
            exact H190 (0 : Int32)
          · refine j_iconst (v := (4 : Int32)) C d_RM_byteOf_56 (by decide) ?_
            refine j_goto (tgt := 61) C d_RM_byteOf_57 (by decide) ?_
            exact H190 (4 : Int32)
        · refine j_iconst (v := (3 : Int32)) C d_RM_byteOf_41 (by decide) ?_
          refine j_goto (tgt := 61) C d_RM_byteOf_42 (by decide) ?_
          exact H190 (3 : Int32)
      · refine j_iconst (v := (2 : Int32)) C d_RM_byteOf_26 (by decide) ?_
        refine j_goto (tgt := 61) C d_RM_byteOf_27 (by decide) ?_
        exact H190 (2 : Int32)
    · refine j_iconst (v := (1 : Int32)) C d_RM_byteOf_8 (by decide) ?_
      refine j_goto (tgt := 61) C d_RM_byteOf_9 (by decide) ?_
      exact H190 (1 : Int32)
theorem c_RM_byteOf {l : Launch} {D : va_G} {G : GC} {ad : Nat → Nat} {k0 : Nat} (h0k : Is k0 11) (x1 : Int32) (x2 : Int32) (σ : Mem) {q : Int32 × Mem} (hq : f_RM_byteOf k0 x1 x2 σ = some q) : Ctr l D G ad ⟨"LineFramesModel", "byteOf", "(II)I"⟩ prog_13_method_12_code 3 (some .int) 1 22 [.ref (ad k0), .int x1, .int x2] σ (.inl (some (.int q.1)), q.2) := ctr_J (cv := (cvO cvIM)) (E := f_RM_byteOf k0 x1 x2 σ) (by decide +kernel) (Nat.le_of_ble_eq_true rfl) (by rw [hq]; rfl) (fun F h C => by subst h; exact w_RM_byteOf C h0k x1 x2 σ)
/-! LineFramesModel lay (I)V -/
theorem d_RM_lay_0 : decode prog_13_method_20_code 0 = .ok (.aload_n 0, 1) := by decide +kernel
theorem d_RM_lay_1 : decode prog_13_method_20_code 1 = .ok (.getfield 29, 3) := by decide +kernel
theorem d_RM_lay_4 : decode prog_13_method_20_code 4 = .ok (.aload_n 0, 1) := by decide +kernel
theorem d_RM_lay_5 : decode prog_13_method_20_code 5 = .ok (.getfield 146, 3) := by decide +kernel
theorem d_RM_lay_8 : decode prog_13_method_20_code 8 = .ok (.iload_n 1, 1) := by decide +kernel
theorem d_RM_lay_9 : decode prog_13_method_20_code 9 = .ok (.iastore, 1) := by decide +kernel
theorem d_RM_lay_10 : decode prog_13_method_20_code 10 = .ok (.aload_n 0, 1) := by decide +kernel
theorem d_RM_lay_11 : decode prog_13_method_20_code 11 = .ok (.dup, 1) := by decide +kernel
theorem d_RM_lay_12 : decode prog_13_method_20_code 12 = .ok (.getfield 146, 3) := by decide +kernel
theorem d_RM_lay_15 : decode prog_13_method_20_code 15 = .ok (.iconst 1, 1) := by decide +kernel
theorem d_RM_lay_16 : decode prog_13_method_20_code 16 = .ok (.iadd, 1) := by decide +kernel
theorem d_RM_lay_17 : decode prog_13_method_20_code 17 = .ok (.putfield 146, 3) := by decide +kernel
theorem d_RM_lay_20 : decode prog_13_method_20_code 20 = .ok (.return_, 1) := by decide +kernel
def f_RM_lay (k0 : Nat) (x1 : Int32) (σ : Mem) : Option (Mem) :=
  if inb (σ k0 17) (wln (wtg k0 16)) = true then
  lt (mput σ (wtg k0 16) (σ k0 17).toNatClampNeg x1) fun σ2 =>
  lt (mput σ2 k0 17 ((σ2 k0 17) + (1 : Int32))) fun σ3 =>
  some (σ3)
  else none
set_option maxHeartbeats 4000000 in
set_option maxRecDepth 100000 in
theorem w_RM_lay {F : Fx} (C : Ctx F prog_13_method_20_code 2 "LineFramesModel" none 0 0) {k0 : Nat} (h0k : Is k0 11) (x1 : Int32) (σ : Mem) : J F 2 (cvO cvM) (f_RM_lay k0 x1 σ) σ 0 [(0, .ref (fad F k0)), (1, .int x1)] [] := by
  unfold f_RM_lay
  refine j_aload_n C d_RM_lay_0 0 rfl ?_
  refine j_getR C h0k fl_RM_29 rfl d_RM_lay_1 ?_
  refine j_aload_n C d_RM_lay_4 0 rfl ?_
  refine j_getI C h0k fl_RM_146 rfl d_RM_lay_5 ?_
  refine j_iload_n C d_RM_lay_8 1 rfl ?_
  refine j_need rfl (fun g1 => ?_)
  refine j_iast C (tg_11_16 _ h0k) (inb_in g1) d_RM_lay_9 (fun σ2 => ?_)
  refine j_aload_n C d_RM_lay_10 0 rfl ?_
  refine j_dup C d_RM_lay_11 rfl ?_
  refine j_getI C h0k fl_RM_146 rfl d_RM_lay_12 ?_
  refine j_iconst (v := (1 : Int32)) C d_RM_lay_15 (by decide) ?_
  refine j_iadd C d_RM_lay_16 ?_
  refine j_put C h0k fl_RM_146 fw_11_17 rfl rfl rfl d_RM_lay_17 (fun σ3 => ?_)
  exact j_vret C (fun ρ h => leaf_eq h) d_RM_lay_20
theorem c_RM_lay {l : Launch} {D : va_G} {G : GC} {ad : Nat → Nat} {k0 : Nat} (h0k : Is k0 11) (x1 : Int32) (σ : Mem) {q : Mem} (hq : f_RM_lay k0 x1 σ = some q) : Ctr l D G ad ⟨"LineFramesModel", "lay", "(I)V"⟩ prog_13_method_20_code 2 none 0 0 [.ref (ad k0), .int x1] σ (.inl none, q) := ctr_J (cv := (cvO cvM)) (E := f_RM_lay k0 x1 σ) (by decide +kernel) (Nat.le_of_ble_eq_true rfl) (by rw [hq]; rfl) (fun F h C => by subst h; exact w_RM_lay C h0k x1 σ)
/-! LineFramesModel layWide (I)V -/
theorem d_RM_layWide_0 : decode prog_13_method_21_code 0 = .ok (.aload_n 0, 1) := by decide +kernel
theorem d_RM_layWide_1 : decode prog_13_method_21_code 1 = .ok (.iload_n 1, 1) := by decide +kernel
theorem d_RM_layWide_2 : decode prog_13_method_21_code 2 = .ok (.sipush 256, 3) := by decide +kernel
theorem d_RM_layWide_5 : decode prog_13_method_21_code 5 = .ok (.idiv, 1) := by decide +kernel
theorem d_RM_layWide_6 : decode prog_13_method_21_code 6 = .ok (.invokevirtual 149, 3) := by decide +kernel
theorem d_RM_layWide_9 : decode prog_13_method_21_code 9 = .ok (.aload_n 0, 1) := by decide +kernel
theorem d_RM_layWide_10 : decode prog_13_method_21_code 10 = .ok (.iload_n 1, 1) := by decide +kernel
theorem d_RM_layWide_11 : decode prog_13_method_21_code 11 = .ok (.sipush 256, 3) := by decide +kernel
theorem d_RM_layWide_14 : decode prog_13_method_21_code 14 = .ok (.irem, 1) := by decide +kernel
theorem d_RM_layWide_15 : decode prog_13_method_21_code 15 = .ok (.invokevirtual 149, 3) := by decide +kernel
theorem d_RM_layWide_18 : decode prog_13_method_21_code 18 = .ok (.return_, 1) := by decide +kernel
def f_RM_layWide (k0 : Nat) (x1 : Int32) (σ : Mem) : Option (Mem) :=
  (f_RM_lay k0 (x1 / (256 : Int32)) σ).bind fun σ2 =>
  (f_RM_lay k0 (x1 - x1 / (256 : Int32) * (256 : Int32)) σ2).bind fun σ4 =>
  some (σ4)
set_option maxHeartbeats 4000000 in
set_option maxRecDepth 100000 in
theorem w_RM_layWide {F : Fx} (C : Ctx F prog_13_method_21_code 2 "LineFramesModel" none 1 21) {k0 : Nat} (h0k : Is k0 11) (x1 : Int32) (σ : Mem) : J F 2 (cvO cvM) (f_RM_layWide k0 x1 σ) σ 0 [(0, .ref (fad F k0)), (1, .int x1)] [] := by
  unfold f_RM_layWide
  refine j_aload_n C d_RM_layWide_0 0 rfl ?_
  refine j_iload_n C d_RM_layWide_1 1 rfl ?_
  refine j_sipush (v := (256 : Int32)) C d_RM_layWide_2 (by decide) ?_
  refine j_idiv C d_RM_layWide_5 (by decide) ?_
  refine j_bind rfl (fun σ2 e1 => ?_)
  refine j_callVv C mv_RM_149 [.int (x1 / (256 : Int32))] [] h0k (c_RM_lay h0k (x1 / (256 : Int32)) σ e1) rfl rfl (by decide) (Nat.le_of_ble_eq_true rfl) d_RM_layWide_6 ?_
  refine j_aload_n C d_RM_layWide_9 0 rfl ?_
  refine j_iload_n C d_RM_layWide_10 1 rfl ?_
  refine j_sipush (v := (256 : Int32)) C d_RM_layWide_11 (by decide) ?_
  refine j_irem C d_RM_layWide_14 (by decide) ?_
  refine j_bind rfl (fun σ4 e3 => ?_)
  refine j_callVv C mv_RM_149 [.int (x1 - x1 / (256 : Int32) * (256 : Int32))] [] h0k (c_RM_lay h0k (x1 - x1 / (256 : Int32) * (256 : Int32)) σ2 e3) rfl rfl (by decide) (Nat.le_of_ble_eq_true rfl) d_RM_layWide_15 ?_
  exact j_vret C (fun ρ h => leaf_eq h) d_RM_layWide_18
theorem c_RM_layWide {l : Launch} {D : va_G} {G : GC} {ad : Nat → Nat} {k0 : Nat} (h0k : Is k0 11) (x1 : Int32) (σ : Mem) {q : Mem} (hq : f_RM_layWide k0 x1 σ = some q) : Ctr l D G ad ⟨"LineFramesModel", "layWide", "(I)V"⟩ prog_13_method_21_code 2 none 1 21 [.ref (ad k0), .int x1] σ (.inl none, q) := ctr_J (cv := (cvO cvM)) (E := f_RM_layWide k0 x1 σ) (by decide +kernel) (Nat.le_of_ble_eq_true rfl) (by rw [hq]; rfl) (fun F h C => by subst h; exact w_RM_layWide C h0k x1 σ)
/-! LineFramesModel mark (II)V -/
theorem d_RM_mark_0 : decode prog_13_method_22_code 0 = .ok (.aload_n 0, 1) := by decide +kernel
theorem d_RM_mark_1 : decode prog_13_method_22_code 1 = .ok (.sipush 255, 3) := by decide +kernel
theorem d_RM_mark_4 : decode prog_13_method_22_code 4 = .ok (.invokevirtual 149, 3) := by decide +kernel
theorem d_RM_mark_7 : decode prog_13_method_22_code 7 = .ok (.aload_n 0, 1) := by decide +kernel
theorem d_RM_mark_8 : decode prog_13_method_22_code 8 = .ok (.iload_n 1, 1) := by decide +kernel
theorem d_RM_mark_9 : decode prog_13_method_22_code 9 = .ok (.invokevirtual 149, 3) := by decide +kernel
theorem d_RM_mark_12 : decode prog_13_method_22_code 12 = .ok (.aload_n 0, 1) := by decide +kernel
theorem d_RM_mark_13 : decode prog_13_method_22_code 13 = .ok (.iload_n 2, 1) := by decide +kernel
theorem d_RM_mark_14 : decode prog_13_method_22_code 14 = .ok (.invokevirtual 153, 3) := by decide +kernel
theorem d_RM_mark_17 : decode prog_13_method_22_code 17 = .ok (.return_, 1) := by decide +kernel
def f_RM_mark (k0 : Nat) (x1 : Int32) (x2 : Int32) (σ : Mem) : Option (Mem) :=
  (f_RM_lay k0 (255 : Int32) σ).bind fun σ2 =>
  (f_RM_lay k0 x1 σ2).bind fun σ4 =>
  (f_RM_layWide k0 x2 σ4).bind fun σ6 =>
  some (σ6)
set_option maxHeartbeats 4000000 in
set_option maxRecDepth 100000 in
theorem w_RM_mark {F : Fx} (C : Ctx F prog_13_method_22_code 3 "LineFramesModel" none 2 42) {k0 : Nat} (h0k : Is k0 11) (x1 : Int32) (x2 : Int32) (σ : Mem) : J F 3 (cvO cvM) (f_RM_mark k0 x1 x2 σ) σ 0 [(0, .ref (fad F k0)), (1, .int x1), (2, .int x2)] [] := by
  unfold f_RM_mark
  refine j_aload_n C d_RM_mark_0 0 rfl ?_
  refine j_sipush (v := (255 : Int32)) C d_RM_mark_1 (by decide) ?_
  refine j_bind rfl (fun σ2 e1 => ?_)
  refine j_callVv C mv_RM_149 [.int (255 : Int32)] [] h0k (c_RM_lay h0k (255 : Int32) σ e1) rfl rfl (by decide) (Nat.le_of_ble_eq_true rfl) d_RM_mark_4 ?_
  refine j_aload_n C d_RM_mark_7 0 rfl ?_
  refine j_iload_n C d_RM_mark_8 1 rfl ?_
  refine j_bind rfl (fun σ4 e3 => ?_)
  refine j_callVv C mv_RM_149 [.int x1] [] h0k (c_RM_lay h0k x1 σ2 e3) rfl rfl (by decide) (Nat.le_of_ble_eq_true rfl) d_RM_mark_9 ?_
  refine j_aload_n C d_RM_mark_12 0 rfl ?_
  refine j_iload_n C d_RM_mark_13 2 rfl ?_
  refine j_bind rfl (fun σ6 e5 => ?_)
  refine j_callVv C mv_RM_153 [.int x2] [] h0k (c_RM_layWide h0k x2 σ4 e5) rfl rfl (by decide) (Nat.le_of_ble_eq_true rfl) d_RM_mark_14 ?_
  exact j_vret C (fun ρ h => leaf_eq h) d_RM_mark_17
theorem c_RM_mark {l : Launch} {D : va_G} {G : GC} {ad : Nat → Nat} {k0 : Nat} (h0k : Is k0 11) (x1 : Int32) (x2 : Int32) (σ : Mem) {q : Mem} (hq : f_RM_mark k0 x1 x2 σ = some q) : Ctr l D G ad ⟨"LineFramesModel", "mark", "(II)V"⟩ prog_13_method_22_code 3 none 2 42 [.ref (ad k0), .int x1, .int x2] σ (.inl none, q) := ctr_J (cv := (cvO cvM)) (E := f_RM_mark k0 x1 x2 σ) (by decide +kernel) (Nat.le_of_ble_eq_true rfl) (by rw [hq]; rfl) (fun F h C => by subst h; exact w_RM_mark C h0k x1 x2 σ)
/-! LineFramesModel begin (II)V -/
theorem d_RM_begin_0 : decode prog_13_method_15_code 0 = .ok (.aload_n 0, 1) := by decide +kernel
theorem d_RM_begin_1 : decode prog_13_method_15_code 1 = .ok (.iload_n 1, 1) := by decide +kernel
theorem d_RM_begin_2 : decode prog_13_method_15_code 2 = .ok (.putfield 143, 3) := by decide +kernel
theorem d_RM_begin_5 : decode prog_13_method_15_code 5 = .ok (.iconst 0, 1) := by decide +kernel
theorem d_RM_begin_6 : decode prog_13_method_15_code 6 = .ok (.istore_n 3, 1) := by decide +kernel
theorem d_RM_begin_7 : decode prog_13_method_15_code 7 = .ok (.iload_n 3, 1) := by decide +kernel
theorem d_RM_begin_8 : decode prog_13_method_15_code 8 = .ok (.iconst 4, 1) := by decide +kernel
theorem d_RM_begin_9 : decode prog_13_method_15_code 9 = .ok (.if_icmp .ge 23, 3) := by decide +kernel
theorem d_RM_begin_12 : decode prog_13_method_15_code 12 = .ok (.aload_n 0, 1) := by decide +kernel
theorem d_RM_begin_13 : decode prog_13_method_15_code 13 = .ok (.getfield 80, 3) := by decide +kernel
theorem d_RM_begin_16 : decode prog_13_method_15_code 16 = .ok (.iload_n 3, 1) := by decide +kernel
theorem d_RM_begin_17 : decode prog_13_method_15_code 17 = .ok (.iload_n 2, 1) := by decide +kernel
theorem d_RM_begin_18 : decode prog_13_method_15_code 18 = .ok (.iastore, 1) := by decide +kernel
theorem d_RM_begin_19 : decode prog_13_method_15_code 19 = .ok (.aload_n 0, 1) := by decide +kernel
theorem d_RM_begin_20 : decode prog_13_method_15_code 20 = .ok (.getfield 83, 3) := by decide +kernel
theorem d_RM_begin_23 : decode prog_13_method_15_code 23 = .ok (.iload_n 3, 1) := by decide +kernel
theorem d_RM_begin_24 : decode prog_13_method_15_code 24 = .ok (.iconst 1, 1) := by decide +kernel
theorem d_RM_begin_25 : decode prog_13_method_15_code 25 = .ok (.iastore, 1) := by decide +kernel
theorem d_RM_begin_26 : decode prog_13_method_15_code 26 = .ok (.iinc 3 1, 3) := by decide +kernel
theorem d_RM_begin_29 : decode prog_13_method_15_code 29 = .ok (.goto (-22), 3) := by decide +kernel
theorem d_RM_begin_32 : decode prog_13_method_15_code 32 = .ok (.return_, 1) := by decide +kernel
def L_RM_begin_7 (r0 : Nat) (b1 : Int32) (b2 : Int32) : Nat → Int32 → Mem →  Option (Int32 × Mem)
  | 0, _, _ => none
  | n + 1, a3, σ =>
  if (4 : Int32) ≤ a3 then
  some (a3, σ)
  else
  if inb a3 (wln (wtg r0 52)) = true then
  lt (mput σ (wtg r0 52) a3.toNatClampNeg b2) fun σ4 =>
  if inb a3 (wln (wtg r0 53)) = true then
  lt (mput σ4 (wtg r0 53) a3.toNatClampNeg (1 : Int32)) fun σ6 =>
  L_RM_begin_7 r0 b1 b2 n (a3 + (1 : Int32)) σ6
  else none
  else none
def f_RM_begin (k0 : Nat) (x1 : Int32) (x2 : Int32) (σ : Mem) : Option (Mem) :=
  lt (mput σ k0 56 x1) fun σ1 =>
  (L_RM_begin_7 k0 x1 x2 9999 (0 : Int32) σ1).bind fun q7 =>
  some (q7.2)
set_option maxHeartbeats 4000000 in
set_option maxRecDepth 100000 in
theorem wL_RM_begin_7 {F : Fx} (C : Ctx F prog_13_method_15_code 4 "LineFramesModel" none 0 0) {cv : Option (Int32 × Mem) → Option Rs} (h0 : cv none = none) (r0 : Nat) (hr0 : Is r0 11) (b1 : Int32) (b2 : Int32) (hex : ∀ q : Int32 × Mem, J F 4 cv (some q) q.2 32 [(0, .ref (fad F r0)), (1, .int b1), (2, .int b2), (3, .int q.1)] []) : ∀ (n : Nat) (a3 : Int32) (σ : Mem), J F 4 cv (L_RM_begin_7 r0 b1 b2 n a3 σ) σ 7 [(0, .ref (fad F r0)), (1, .int b1), (2, .int b2), (3, .int a3)] [] := by
  intro n
  induction n with
  | zero => intro a3 σ hE; rw [L_RM_begin_7, h0] at hE; cases hE
  | succ n ih =>
    intro a3 σ
    rw [L_RM_begin_7]
    refine j_iload_n C d_RM_begin_7 3 rfl ?_
    refine j_iconst (v := (4 : Int32)) C d_RM_begin_8 (by decide) ?_
    refine j_icmp_ge (tgt := 32) C d_RM_begin_9 (by decide) (fun c2 => ?_) (fun c2 => ?_)
    · exact hex (a3, σ)
    · refine j_aload_n C d_RM_begin_12 0 rfl ?_
      refine j_getR C hr0 fl_RM_80 rfl d_RM_begin_13 ?_
      refine j_iload_n C d_RM_begin_16 3 rfl ?_
      refine j_iload_n C d_RM_begin_17 2 rfl ?_
      refine j_need (by exact h0) (fun g3 => ?_)
      refine j_iast C (tg_11_52 _ hr0) (inb_in g3) d_RM_begin_18 (fun σ4 => ?_)
      refine j_aload_n C d_RM_begin_19 0 rfl ?_
      refine j_getR C hr0 fl_RM_83 rfl d_RM_begin_20 ?_
      refine j_iload_n C d_RM_begin_23 3 rfl ?_
      refine j_iconst (v := (1 : Int32)) C d_RM_begin_24 (by decide) ?_
      refine j_need (by exact h0) (fun g5 => ?_)
      refine j_iast C (tg_11_53 _ hr0) (inb_in g5) d_RM_begin_25 (fun σ6 => ?_)
      refine j_iinc (v := (a3 + (1 : Int32))) (lv9 := [(0, .ref (fad F r0)), (1, .int b1), (2, .int b2), (3, .int (a3 + (1 : Int32)))]) C d_RM_begin_26 3 rfl rfl rfl rfl (by decide) ?_
      refine j_goto (tgt := 7) C d_RM_begin_29 (by decide) ?_
      exact ih (a3 + (1 : Int32)) σ6
set_option maxHeartbeats 4000000 in
set_option maxRecDepth 100000 in
theorem w_RM_begin {F : Fx} (C : Ctx F prog_13_method_15_code 4 "LineFramesModel" none 0 0) {k0 : Nat} (h0k : Is k0 11) (x1 : Int32) (x2 : Int32) (σ : Mem) : J F 4 (cvO cvM) (f_RM_begin k0 x1 x2 σ) σ 0 [(0, .ref (fad F k0)), (1, .int x1), (2, .int x2)] [] := by
  unfold f_RM_begin
  refine j_aload_n C d_RM_begin_0 0 rfl ?_
  refine j_iload_n C d_RM_begin_1 1 rfl ?_
  refine j_put C h0k fl_RM_143 fw_11_56 rfl rfl rfl d_RM_begin_2 (fun σ1 => ?_)
  refine j_iconst (v := (0 : Int32)) C d_RM_begin_5 (by decide) ?_
  refine j_istore_n (lv9 := [(0, .ref (fad F k0)), (1, .int x1), (2, .int x2), (3, .int (0 : Int32))]) C d_RM_begin_6 rfl rfl (by decide) ?_
  refine j_loop (wL_RM_begin_7 C rfl k0 h0k x1 x2 (fun q7 => j_some ?_) 9999 (0 : Int32) σ1)
  exact j_vret C (fun ρ h => leaf_eq h) d_RM_begin_32
theorem c_RM_begin {l : Launch} {D : va_G} {G : GC} {ad : Nat → Nat} {k0 : Nat} (h0k : Is k0 11) (x1 : Int32) (x2 : Int32) (σ : Mem) {q : Mem} (hq : f_RM_begin k0 x1 x2 σ = some q) : Ctr l D G ad ⟨"LineFramesModel", "begin", "(II)V"⟩ prog_13_method_15_code 4 none 0 0 [.ref (ad k0), .int x1, .int x2] σ (.inl none, q) := ctr_J (cv := (cvO cvM)) (E := f_RM_begin k0 x1 x2 σ) (by decide +kernel) (Nat.le_of_ble_eq_true rfl) (by rw [hq]; rfl) (fun F h C => by subst h; exact w_RM_begin C h0k x1 x2 σ)
/-! LineFramesModel foretold (III)I -/
theorem d_RM_foretold_0 : decode prog_13_method_16_code 0 = .ok (.sipush 144, 3) := by decide +kernel
theorem d_RM_foretold_3 : decode prog_13_method_16_code 3 = .ok (.iload_n 1, 1) := by decide +kernel
theorem d_RM_foretold_4 : decode prog_13_method_16_code 4 = .ok (.imul, 1) := by decide +kernel
theorem d_RM_foretold_5 : decode prog_13_method_16_code 5 = .ok (.bipush 12, 2) := by decide +kernel
theorem d_RM_foretold_7 : decode prog_13_method_16_code 7 = .ok (.iload_n 3, 1) := by decide +kernel
theorem d_RM_foretold_8 : decode prog_13_method_16_code 8 = .ok (.imul, 1) := by decide +kernel
theorem d_RM_foretold_9 : decode prog_13_method_16_code 9 = .ok (.iadd, 1) := by decide +kernel
theorem d_RM_foretold_10 : decode prog_13_method_16_code 10 = .ok (.iload_n 2, 1) := by decide +kernel
theorem d_RM_foretold_11 : decode prog_13_method_16_code 11 = .ok (.iadd, 1) := by decide +kernel
theorem d_RM_foretold_12 : decode prog_13_method_16_code 12 = .ok (.istore 4, 2) := by decide +kernel
theorem d_RM_foretold_14 : decode prog_13_method_16_code 14 = .ok (.iload_n 3, 1) := by decide +kernel
theorem d_RM_foretold_15 : decode prog_13_method_16_code 15 = .ok (.aload_n 0, 1) := by decide +kernel
theorem d_RM_foretold_16 : decode prog_13_method_16_code 16 = .ok (.getfield 143, 3) := by decide +kernel
theorem d_RM_foretold_19 : decode prog_13_method_16_code 19 = .ok (.if_icmp .ne 7, 3) := by decide +kernel
theorem d_RM_foretold_22 : decode prog_13_method_16_code 22 = .ok (.iconst 0, 1) := by decide +kernel
theorem d_RM_foretold_23 : decode prog_13_method_16_code 23 = .ok (.goto 13, 3) := by decide +kernel
theorem d_RM_foretold_26 : decode prog_13_method_16_code 26 = .ok (.aload_n 0, 1) := by decide +kernel
theorem d_RM_foretold_27 : decode prog_13_method_16_code 27 = .ok (.getfield 77, 3) := by decide +kernel
theorem d_RM_foretold_30 : decode prog_13_method_16_code 30 = .ok (.iload 4, 2) := by decide +kernel
theorem d_RM_foretold_32 : decode prog_13_method_16_code 32 = .ok (.bipush 12, 2) := by decide +kernel
theorem d_RM_foretold_34 : decode prog_13_method_16_code 34 = .ok (.isub, 1) := by decide +kernel
theorem d_RM_foretold_35 : decode prog_13_method_16_code 35 = .ok (.iaload, 1) := by decide +kernel
theorem d_RM_foretold_36 : decode prog_13_method_16_code 36 = .ok (.istore 5, 2) := by decide +kernel
theorem d_RM_foretold_38 : decode prog_13_method_16_code 38 = .ok (.iload_n 2, 1) := by decide +kernel
theorem d_RM_foretold_39 : decode prog_13_method_16_code 39 = .ok (.ifCond .ne 8, 3) := by decide +kernel
theorem d_RM_foretold_42 : decode prog_13_method_16_code 42 = .ok (.iload 5, 2) := by decide +kernel
theorem d_RM_foretold_44 : decode prog_13_method_16_code 44 = .ok (.goto 12, 3) := by decide +kernel
theorem d_RM_foretold_47 : decode prog_13_method_16_code 47 = .ok (.aload_n 0, 1) := by decide +kernel
theorem d_RM_foretold_48 : decode prog_13_method_16_code 48 = .ok (.getfield 77, 3) := by decide +kernel
theorem d_RM_foretold_51 : decode prog_13_method_16_code 51 = .ok (.iload 4, 2) := by decide +kernel
theorem d_RM_foretold_53 : decode prog_13_method_16_code 53 = .ok (.iconst 1, 1) := by decide +kernel
theorem d_RM_foretold_54 : decode prog_13_method_16_code 54 = .ok (.isub, 1) := by decide +kernel
theorem d_RM_foretold_55 : decode prog_13_method_16_code 55 = .ok (.iaload, 1) := by decide +kernel
theorem d_RM_foretold_56 : decode prog_13_method_16_code 56 = .ok (.istore 6, 2) := by decide +kernel
theorem d_RM_foretold_58 : decode prog_13_method_16_code 58 = .ok (.iload_n 2, 1) := by decide +kernel
theorem d_RM_foretold_59 : decode prog_13_method_16_code 59 = .ok (.ifCond .ne 8, 3) := by decide +kernel
theorem d_RM_foretold_62 : decode prog_13_method_16_code 62 = .ok (.iload 5, 2) := by decide +kernel
theorem d_RM_foretold_64 : decode prog_13_method_16_code 64 = .ok (.goto 27, 3) := by decide +kernel
theorem d_RM_foretold_67 : decode prog_13_method_16_code 67 = .ok (.iload_n 3, 1) := by decide +kernel
theorem d_RM_foretold_68 : decode prog_13_method_16_code 68 = .ok (.aload_n 0, 1) := by decide +kernel
theorem d_RM_foretold_69 : decode prog_13_method_16_code 69 = .ok (.getfield 143, 3) := by decide +kernel
theorem d_RM_foretold_72 : decode prog_13_method_16_code 72 = .ok (.if_icmp .ne 7, 3) := by decide +kernel
theorem d_RM_foretold_75 : decode prog_13_method_16_code 75 = .ok (.iconst 0, 1) := by decide +kernel
theorem d_RM_foretold_76 : decode prog_13_method_16_code 76 = .ok (.goto 15, 3) := by decide +kernel
theorem d_RM_foretold_79 : decode prog_13_method_16_code 79 = .ok (.aload_n 0, 1) := by decide +kernel
theorem d_RM_foretold_80 : decode prog_13_method_16_code 80 = .ok (.getfield 77, 3) := by decide +kernel
theorem d_RM_foretold_83 : decode prog_13_method_16_code 83 = .ok (.iload 4, 2) := by decide +kernel
theorem d_RM_foretold_85 : decode prog_13_method_16_code 85 = .ok (.bipush 12, 2) := by decide +kernel
theorem d_RM_foretold_87 : decode prog_13_method_16_code 87 = .ok (.isub, 1) := by decide +kernel
theorem d_RM_foretold_88 : decode prog_13_method_16_code 88 = .ok (.iconst 1, 1) := by decide +kernel
theorem d_RM_foretold_89 : decode prog_13_method_16_code 89 = .ok (.isub, 1) := by decide +kernel
theorem d_RM_foretold_90 : decode prog_13_method_16_code 90 = .ok (.iaload, 1) := by decide +kernel
theorem d_RM_foretold_91 : decode prog_13_method_16_code 91 = .ok (.istore 7, 2) := by decide +kernel
theorem d_RM_foretold_93 : decode prog_13_method_16_code 93 = .ok (.iload 6, 2) := by decide +kernel
theorem d_RM_foretold_95 : decode prog_13_method_16_code 95 = .ok (.iload 5, 2) := by decide +kernel
theorem d_RM_foretold_97 : decode prog_13_method_16_code 97 = .ok (.if_icmp .ge 8, 3) := by decide +kernel
theorem d_RM_foretold_100 : decode prog_13_method_16_code 100 = .ok (.iload 6, 2) := by decide +kernel
theorem d_RM_foretold_102 : decode prog_13_method_16_code 102 = .ok (.goto 5, 3) := by decide +kernel
theorem d_RM_foretold_105 : decode prog_13_method_16_code 105 = .ok (.iload 5, 2) := by decide +kernel
theorem d_RM_foretold_107 : decode prog_13_method_16_code 107 = .ok (.istore 8, 2) := by decide +kernel
theorem d_RM_foretold_109 : decode prog_13_method_16_code 109 = .ok (.iload 6, 2) := by decide +kernel
theorem d_RM_foretold_111 : decode prog_13_method_16_code 111 = .ok (.iload 5, 2) := by decide +kernel
theorem d_RM_foretold_113 : decode prog_13_method_16_code 113 = .ok (.if_icmp .ge 8, 3) := by decide +kernel
theorem d_RM_foretold_116 : decode prog_13_method_16_code 116 = .ok (.iload 5, 2) := by decide +kernel
theorem d_RM_foretold_118 : decode prog_13_method_16_code 118 = .ok (.goto 5, 3) := by decide +kernel
theorem d_RM_foretold_121 : decode prog_13_method_16_code 121 = .ok (.iload 6, 2) := by decide +kernel
theorem d_RM_foretold_123 : decode prog_13_method_16_code 123 = .ok (.istore 9, 2) := by decide +kernel
theorem d_RM_foretold_125 : decode prog_13_method_16_code 125 = .ok (.iload 7, 2) := by decide +kernel
theorem d_RM_foretold_127 : decode prog_13_method_16_code 127 = .ok (.iload 9, 2) := by decide +kernel
theorem d_RM_foretold_129 : decode prog_13_method_16_code 129 = .ok (.if_icmp .lt 8, 3) := by decide +kernel
theorem d_RM_foretold_132 : decode prog_13_method_16_code 132 = .ok (.iload 8, 2) := by decide +kernel
theorem d_RM_foretold_134 : decode prog_13_method_16_code 134 = .ok (.goto 23, 3) := by decide +kernel
theorem d_RM_foretold_137 : decode prog_13_method_16_code 137 = .ok (.iload 7, 2) := by decide +kernel
theorem d_RM_foretold_139 : decode prog_13_method_16_code 139 = .ok (.iload 8, 2) := by decide +kernel
theorem d_RM_foretold_141 : decode prog_13_method_16_code 141 = .ok (.if_icmp .gt 8, 3) := by decide +kernel
theorem d_RM_foretold_144 : decode prog_13_method_16_code 144 = .ok (.iload 9, 2) := by decide +kernel
theorem d_RM_foretold_146 : decode prog_13_method_16_code 146 = .ok (.goto 11, 3) := by decide +kernel
theorem d_RM_foretold_149 : decode prog_13_method_16_code 149 = .ok (.iload 6, 2) := by decide +kernel
theorem d_RM_foretold_151 : decode prog_13_method_16_code 151 = .ok (.iload 5, 2) := by decide +kernel
theorem d_RM_foretold_153 : decode prog_13_method_16_code 153 = .ok (.iadd, 1) := by decide +kernel
theorem d_RM_foretold_154 : decode prog_13_method_16_code 154 = .ok (.iload 7, 2) := by decide +kernel
theorem d_RM_foretold_156 : decode prog_13_method_16_code 156 = .ok (.isub, 1) := by decide +kernel
theorem d_RM_foretold_157 : decode prog_13_method_16_code 157 = .ok (.ireturn, 1) := by decide +kernel
def f_RM_foretold (k0 : Nat) (x1 : Int32) (x2 : Int32) (x3 : Int32) (σ : Mem) : Option (Int32) :=
  lt ((((144 : Int32) * x1) + ((12 : Int32) * x3)) + x2) fun v1 =>
  lt (fun (y125 : Int32) => 
  lt (fun (y229 : Int32) => 
  lt (fun (y357 : Int32) => 
  some (if y357 < (if y125 ≤ y229 then y229 else y125) then (if (if y125 ≤ y229 then y125 else y229) < y357 then ((y229 + y125) - y357) else (if y125 ≤ y229 then y229 else y125)) else (if y125 ≤ y229 then y125 else y229))) fun K358 =>
  if x2 = 0 then
  K358 y125
  else
  if x3 = (σ k0 56) then
  K358 (0 : Int32)
  else
  if inb ((v1 - (12 : Int32)) - (1 : Int32)) (wln (wtg k0 51)) = true then
  K358 (σ (wtg k0 51) ((v1 - (12 : Int32)) - (1 : Int32)).toNatClampNeg)
  else none) fun K230 =>
  if x2 = 0 then
  K230 y125
  else
  if inb (v1 - (1 : Int32)) (wln (wtg k0 51)) = true then
  K230 (σ (wtg k0 51) (v1 - (1 : Int32)).toNatClampNeg)
  else none) fun K126 =>
  if x3 = (σ k0 56) then
  K126 (0 : Int32)
  else
  if inb (v1 - (12 : Int32)) (wln (wtg k0 51)) = true then
  K126 (σ (wtg k0 51) (v1 - (12 : Int32)).toNatClampNeg)
  else none
set_option maxHeartbeats 4000000 in
set_option maxRecDepth 100000 in
theorem w_RM_foretold {F : Fx} (C : Ctx F prog_13_method_16_code 10 "LineFramesModel" (some .int) 0 0) {k0 : Nat} (h0k : Is k0 11) (x1 : Int32) (x2 : Int32) (x3 : Int32) (σ : Mem) : J F 10 (cvO (cvI σ)) (f_RM_foretold k0 x1 x2 x3 σ) σ 0 [(0, .ref (fad F k0)), (1, .int x1), (2, .int x2), (3, .int x3)] [] := by
  unfold f_RM_foretold
  refine j_sipush (v := (144 : Int32)) C d_RM_foretold_0 (by decide) ?_
  refine j_iload_n C d_RM_foretold_3 1 rfl ?_
  refine j_imul C d_RM_foretold_4 ?_
  refine j_bipush (v := (12 : Int32)) C d_RM_foretold_5 (by decide) ?_
  refine j_iload_n C d_RM_foretold_7 3 rfl ?_
  refine j_imul C d_RM_foretold_8 ?_
  refine j_iadd C d_RM_foretold_9 ?_
  refine j_iload_n C d_RM_foretold_10 2 rfl ?_
  refine j_iadd C d_RM_foretold_11 ?_
  refine j_nm (fun v1 v1_e => ?_)
  refine j_istore (lv9 := [(0, .ref (fad F k0)), (1, .int x1), (2, .int x2), (3, .int x3), (4, .int v1)]) C d_RM_foretold_12 rfl rfl (by decide) ?_
  refine j_iload_n C d_RM_foretold_14 3 rfl ?_
  refine j_aload_n C d_RM_foretold_15 0 rfl ?_
  refine j_getI C h0k fl_RM_143 rfl d_RM_foretold_16 ?_
  refine j_join1 36 (fun _ => [(0, .ref (fad F k0)), (1, .int x1), (2, .int x2), (3, .int x3), (4, .int v1)]) (fun y125 => [.int y125]) (fun y125 => ?_) (fun K126 H127 => ?_)
  · refine j_istore (lv9 := [(0, .ref (fad F k0)), (1, .int x1), (2, .int x2), (3, .int x3), (4, .int v1), (5, .int y125)]) C d_RM_foretold_36 rfl rfl (by decide) ?_
    refine j_iload_n C d_RM_foretold_38 2 rfl ?_
    refine j_join1 56 (fun _ => [(0, .ref (fad F k0)), (1, .int x1), (2, .int x2), (3, .int x3), (4, .int v1), (5, .int y125)]) (fun y229 => [.int y229]) (fun y229 => ?_) (fun K230 H231 => ?_)
    · refine j_istore (lv9 := [(0, .ref (fad F k0)), (1, .int x1), (2, .int x2), (3, .int x3), (4, .int v1), (5, .int y125), (6, .int y229)]) C d_RM_foretold_56 rfl rfl (by decide) ?_
      refine j_iload_n C d_RM_foretold_58 2 rfl ?_
      refine j_join1 91 (fun _ => [(0, .ref (fad F k0)), (1, .int x1), (2, .int x2), (3, .int x3), (4, .int v1), (5, .int y125), (6, .int y229)]) (fun y357 => [.int y357]) (fun y357 => ?_) (fun K358 H359 => ?_)
      · refine j_istore (lv9 := [(0, .ref (fad F k0)), (1, .int x1), (2, .int x2), (3, .int x3), (4, .int v1), (5, .int y125), (6, .int y229), (7, .int y357)]) C d_RM_foretold_91 rfl rfl (by decide) ?_
        refine j_iload C d_RM_foretold_93 6 rfl ?_
        refine j_iload C d_RM_foretold_95 5 rfl ?_
        refine d_icmp_ge (a := y125) (b := y229) (jp := 107) (tgt := 105) C d_RM_foretold_97 (by decide) (fun c360 k361 => ?_) (fun c360 k361 => ?_) ?_
        · refine j_iload C d_RM_foretold_105 5 rfl ?_
          exact k361
        · refine j_iload C d_RM_foretold_100 6 rfl ?_
          refine j_goto (tgt := 107) C d_RM_foretold_102 (by decide) ?_
          exact k361
        refine j_istore (lv9 := [(0, .ref (fad F k0)), (1, .int x1), (2, .int x2), (3, .int x3), (4, .int v1), (5, .int y125), (6, .int y229), (7, .int y357), (8, .int (if y125 ≤ y229 then y125 else y229))]) C d_RM_foretold_107 rfl rfl (by decide) ?_
        refine j_iload C d_RM_foretold_109 6 rfl ?_
        refine j_iload C d_RM_foretold_111 5 rfl ?_
        refine d_icmp_ge (a := y229) (b := y125) (jp := 123) (tgt := 121) C d_RM_foretold_113 (by decide) (fun c362 k363 => ?_) (fun c362 k363 => ?_) ?_
        · refine j_iload C d_RM_foretold_121 6 rfl ?_
          exact k363
        · refine j_iload C d_RM_foretold_116 5 rfl ?_
          refine j_goto (tgt := 123) C d_RM_foretold_118 (by decide) ?_
          exact k363
        refine j_istore (lv9 := [(0, .ref (fad F k0)), (1, .int x1), (2, .int x2), (3, .int x3), (4, .int v1), (5, .int y125), (6, .int y229), (7, .int y357), (8, .int (if y125 ≤ y229 then y125 else y229)), (9, .int (if y125 ≤ y229 then y229 else y125))]) C d_RM_foretold_123 rfl rfl (by decide) ?_
        refine j_iload C d_RM_foretold_125 7 rfl ?_
        refine j_iload C d_RM_foretold_127 9 rfl ?_
        refine d_icmp_lt (a := (if (if y125 ≤ y229 then y125 else y229) < y357 then ((y229 + y125) - y357) else (if y125 ≤ y229 then y229 else y125))) (b := (if y125 ≤ y229 then y125 else y229)) (jp := 157) (tgt := 137) C d_RM_foretold_129 (by decide) (fun c364 k365 => ?_) (fun c364 k365 => ?_) ?_
        · refine j_iload C d_RM_foretold_137 7 rfl ?_
          refine j_iload C d_RM_foretold_139 8 rfl ?_
          refine d_icmp_gt (a := ((y229 + y125) - y357)) (b := (if y125 ≤ y229 then y229 else y125)) (jp := 157) (tgt := 149) C d_RM_foretold_141 (by decide) (fun c366 k367 => ?_) (fun c366 k367 => ?_) ?_
          · refine j_iload C d_RM_foretold_149 6 rfl ?_
            refine j_iload C d_RM_foretold_151 5 rfl ?_
            refine j_iadd C d_RM_foretold_153 ?_
            refine j_iload C d_RM_foretold_154 7 rfl ?_
            refine j_isub C d_RM_foretold_156 ?_
            exact k367
          · refine j_iload C d_RM_foretold_144 9 rfl ?_
            refine j_goto (tgt := 157) C d_RM_foretold_146 (by decide) ?_
            exact k367
          exact k365
        · refine j_iload C d_RM_foretold_132 8 rfl ?_
          refine j_goto (tgt := 157) C d_RM_foretold_134 (by decide) ?_
          exact k365
        exact j_ireti C (fun ρ h => leaf_eq h) d_RM_foretold_157
      · refine j_if_ne (tgt := 67) C d_RM_foretold_59 (by decide) (fun c368 => ?_) (fun c368 => ?_)
        · refine j_iload_n C d_RM_foretold_67 3 rfl ?_
          refine j_aload_n C d_RM_foretold_68 0 rfl ?_
          refine j_getI C h0k fl_RM_143 rfl d_RM_foretold_69 ?_
          refine j_icmp_ne (tgt := 79) C d_RM_foretold_72 (by decide) (fun c369 => ?_) (fun c369 => ?_)
          · refine j_aload_n C d_RM_foretold_79 0 rfl ?_
            refine j_getR C h0k fl_RM_77 rfl d_RM_foretold_80 ?_
            refine j_iload C d_RM_foretold_83 4 rfl ?_
            refine j_bipush (v := (12 : Int32)) C d_RM_foretold_85 (by decide) ?_
            refine j_isub C d_RM_foretold_87 ?_
            refine j_iconst (v := (1 : Int32)) C d_RM_foretold_88 (by decide) ?_
            refine j_isub C d_RM_foretold_89 ?_
            refine j_need rfl (fun g370 => ?_)
            refine j_iald C (tg_11_51 _ h0k) (inb_in g370) d_RM_foretold_90 ?_
            exact H359 (σ (wtg k0 51) ((v1 - (12 : Int32)) - (1 : Int32)).toNatClampNeg)
          · refine j_iconst (v := (0 : Int32)) C d_RM_foretold_75 (by decide) ?_
            refine j_goto (tgt := 91) C d_RM_foretold_76 (by decide) ?_
            exact H359 (0 : Int32)
        · refine j_iload C d_RM_foretold_62 5 rfl ?_
          refine j_goto (tgt := 91) C d_RM_foretold_64 (by decide) ?_
          exact H359 y125
    · refine j_if_ne (tgt := 47) C d_RM_foretold_39 (by decide) (fun c371 => ?_) (fun c371 => ?_)
      · refine j_aload_n C d_RM_foretold_47 0 rfl ?_
        refine j_getR C h0k fl_RM_77 rfl d_RM_foretold_48 ?_
        refine j_iload C d_RM_foretold_51 4 rfl ?_
        refine j_iconst (v := (1 : Int32)) C d_RM_foretold_53 (by decide) ?_
        refine j_isub C d_RM_foretold_54 ?_
        refine j_need rfl (fun g372 => ?_)
        refine j_iald C (tg_11_51 _ h0k) (inb_in g372) d_RM_foretold_55 ?_
        exact H231 (σ (wtg k0 51) (v1 - (1 : Int32)).toNatClampNeg)
      · refine j_iload C d_RM_foretold_42 5 rfl ?_
        refine j_goto (tgt := 56) C d_RM_foretold_44 (by decide) ?_
        exact H231 y125
  · refine j_icmp_ne (tgt := 26) C d_RM_foretold_19 (by decide) (fun c373 => ?_) (fun c373 => ?_)
    · refine j_aload_n C d_RM_foretold_26 0 rfl ?_
      refine j_getR C h0k fl_RM_77 rfl d_RM_foretold_27 ?_
      refine j_iload C d_RM_foretold_30 4 rfl ?_
      refine j_bipush (v := (12 : Int32)) C d_RM_foretold_32 (by decide) ?_
      refine j_isub C d_RM_foretold_34 ?_
      refine j_need rfl (fun g374 => ?_)
      refine j_iald C (tg_11_51 _ h0k) (inb_in g374) d_RM_foretold_35 ?_
      exact H127 (σ (wtg k0 51) (v1 - (12 : Int32)).toNatClampNeg)
    · refine j_iconst (v := (0 : Int32)) C d_RM_foretold_22 (by decide) ?_
      refine j_goto (tgt := 36) C d_RM_foretold_23 (by decide) ?_
      exact H127 (0 : Int32)
theorem c_RM_foretold {l : Launch} {D : va_G} {G : GC} {ad : Nat → Nat} {k0 : Nat} (h0k : Is k0 11) (x1 : Int32) (x2 : Int32) (x3 : Int32) (σ : Mem) {q : Int32} (hq : f_RM_foretold k0 x1 x2 x3 σ = some q) : Ctr l D G ad ⟨"LineFramesModel", "foretold", "(III)I"⟩ prog_13_method_16_code 10 (some .int) 0 0 [.ref (ad k0), .int x1, .int x2, .int x3] σ (.inl (some (.int q)), σ) := ctr_J (cv := (cvO (cvI σ))) (E := f_RM_foretold k0 x1 x2 x3 σ) (by decide +kernel) (Nat.le_of_ble_eq_true rfl) (by rw [hq]; rfl) (fun F h C => by subst h; exact w_RM_foretold C h0k x1 x2 x3 σ)
/-! LineFramesModel step ()I -/
theorem d_RM_step_0 : decode prog_13_method_13_code 0 = .ok (.iconst 2, 1) := by decide +kernel
theorem d_RM_step_1 : decode prog_13_method_13_code 1 = .ok (.aload_n 0, 1) := by decide +kernel
theorem d_RM_step_2 : decode prog_13_method_13_code 2 = .ok (.getfield 133, 3) := by decide +kernel
theorem d_RM_step_5 : decode prog_13_method_13_code 5 = .ok (.imul, 1) := by decide +kernel
theorem d_RM_step_6 : decode prog_13_method_13_code 6 = .ok (.iconst 1, 1) := by decide +kernel
theorem d_RM_step_7 : decode prog_13_method_13_code 7 = .ok (.iadd, 1) := by decide +kernel
theorem d_RM_step_8 : decode prog_13_method_13_code 8 = .ok (.ireturn, 1) := by decide +kernel
def f_RM_step (k0 : Nat) (σ : Mem) : Int32 :=
  (((2 : Int32) * (σ k0 54)) + (1 : Int32))
set_option maxHeartbeats 4000000 in
set_option maxRecDepth 100000 in
theorem w_RM_step {F : Fx} (C : Ctx F prog_13_method_13_code 1 "LineFramesModel" (some .int) 0 0) {k0 : Nat} (h0k : Is k0 11) (σ : Mem) : J F 1 (cvI σ) (f_RM_step k0 σ) σ 0 [(0, .ref (fad F k0))] [] := by
  unfold f_RM_step
  refine j_iconst (v := (2 : Int32)) C d_RM_step_0 (by decide) ?_
  refine j_aload_n C d_RM_step_1 0 rfl ?_
  refine j_getI C h0k fl_RM_133 rfl d_RM_step_2 ?_
  refine j_imul C d_RM_step_5 ?_
  refine j_iconst (v := (1 : Int32)) C d_RM_step_6 (by decide) ?_
  refine j_iadd C d_RM_step_7 ?_
  exact j_ireti C (fun ρ h => leaf_eq h) d_RM_step_8
theorem c_RM_step {l : Launch} {D : va_G} {G : GC} {ad : Nat → Nat} {k0 : Nat} (h0k : Is k0 11) (σ : Mem) : Ctr l D G ad ⟨"LineFramesModel", "step", "()I"⟩ prog_13_method_13_code 1 (some .int) 0 0 [.ref (ad k0)] σ (.inl (some (.int (f_RM_step k0 σ))), σ) := ctr_J (cv := (cvI σ)) (E := f_RM_step k0 σ) (by decide +kernel) (Nat.le_of_ble_eq_true rfl) rfl (fun F h C => by subst h; exact w_RM_step C h0k σ)
/-! LineFramesModel clipped (I)I -/
theorem d_RM_clipped_0 : decode prog_13_method_17_code 0 = .ok (.iload_n 1, 1) := by decide +kernel
theorem d_RM_clipped_1 : decode prog_13_method_17_code 1 = .ok (.ifCond .ge 7, 3) := by decide +kernel
theorem d_RM_clipped_4 : decode prog_13_method_17_code 4 = .ok (.iconst 0, 1) := by decide +kernel
theorem d_RM_clipped_5 : decode prog_13_method_17_code 5 = .ok (.goto 19, 3) := by decide +kernel
theorem d_RM_clipped_8 : decode prog_13_method_17_code 8 = .ok (.iload_n 1, 1) := by decide +kernel
theorem d_RM_clipped_9 : decode prog_13_method_17_code 9 = .ok (.aload_n 0, 1) := by decide +kernel
theorem d_RM_clipped_10 : decode prog_13_method_17_code 10 = .ok (.getfield 136, 3) := by decide +kernel
theorem d_RM_clipped_13 : decode prog_13_method_17_code 13 = .ok (.if_icmp .le 10, 3) := by decide +kernel
theorem d_RM_clipped_16 : decode prog_13_method_17_code 16 = .ok (.aload_n 0, 1) := by decide +kernel
theorem d_RM_clipped_17 : decode prog_13_method_17_code 17 = .ok (.getfield 136, 3) := by decide +kernel
theorem d_RM_clipped_20 : decode prog_13_method_17_code 20 = .ok (.goto 4, 3) := by decide +kernel
theorem d_RM_clipped_23 : decode prog_13_method_17_code 23 = .ok (.iload_n 1, 1) := by decide +kernel
theorem d_RM_clipped_24 : decode prog_13_method_17_code 24 = .ok (.ireturn, 1) := by decide +kernel
def f_RM_clipped (k0 : Nat) (x1 : Int32) (σ : Mem) : Int32 :=
  (if 0 ≤ x1 then (if x1 ≤ (σ k0 55) then x1 else (σ k0 55)) else (0 : Int32))
set_option maxHeartbeats 4000000 in
set_option maxRecDepth 100000 in
theorem w_RM_clipped {F : Fx} (C : Ctx F prog_13_method_17_code 2 "LineFramesModel" (some .int) 0 0) {k0 : Nat} (h0k : Is k0 11) (x1 : Int32) (σ : Mem) : J F 2 (cvI σ) (f_RM_clipped k0 x1 σ) σ 0 [(0, .ref (fad F k0)), (1, .int x1)] [] := by
  unfold f_RM_clipped
  refine j_iload_n C d_RM_clipped_0 1 rfl ?_
  refine d_if_ge (a := (if x1 ≤ (σ k0 55) then x1 else (σ k0 55))) (b := (0 : Int32)) (jp := 24) (tgt := 8) C d_RM_clipped_1 (by decide) (fun c1 k2 => ?_) (fun c1 k2 => ?_) ?_
  · refine j_iload_n C d_RM_clipped_8 1 rfl ?_
    refine j_aload_n C d_RM_clipped_9 0 rfl ?_
    refine j_getI C h0k fl_RM_136 rfl d_RM_clipped_10 ?_
    refine d_icmp_le (a := x1) (b := (σ k0 55)) (jp := 24) (tgt := 23) C d_RM_clipped_13 (by decide) (fun c3 k4 => ?_) (fun c3 k4 => ?_) ?_
    · refine j_iload_n C d_RM_clipped_23 1 rfl ?_
      exact k4
    · refine j_aload_n C d_RM_clipped_16 0 rfl ?_
      refine j_getI C h0k fl_RM_136 rfl d_RM_clipped_17 ?_
      refine j_goto (tgt := 24) C d_RM_clipped_20 (by decide) ?_
      exact k4
    exact k2
  · refine j_iconst (v := (0 : Int32)) C d_RM_clipped_4 (by decide) ?_
    refine j_goto (tgt := 24) C d_RM_clipped_5 (by decide) ?_
    exact k2
  exact j_ireti C (fun ρ h => leaf_eq h) d_RM_clipped_24
theorem c_RM_clipped {l : Launch} {D : va_G} {G : GC} {ad : Nat → Nat} {k0 : Nat} (h0k : Is k0 11) (x1 : Int32) (σ : Mem) : Ctr l D G ad ⟨"LineFramesModel", "clipped", "(I)I"⟩ prog_13_method_17_code 2 (some .int) 0 0 [.ref (ad k0), .int x1] σ (.inl (some (.int (f_RM_clipped k0 x1 σ))), σ) := ctr_J (cv := (cvI σ)) (E := f_RM_clipped k0 x1 σ) (by decide +kernel) (Nat.le_of_ble_eq_true rfl) rfl (fun F h C => by subst h; exact w_RM_clipped C h0k x1 σ)
/-! LineFramesModel range ()I -/
theorem d_RM_range_0 : decode prog_13_method_14_code 0 = .ok (.aload_n 0, 1) := by decide +kernel
theorem d_RM_range_1 : decode prog_13_method_14_code 1 = .ok (.getfield 136, 3) := by decide +kernel
theorem d_RM_range_4 : decode prog_13_method_14_code 4 = .ok (.iconst 2, 1) := by decide +kernel
theorem d_RM_range_5 : decode prog_13_method_14_code 5 = .ok (.aload_n 0, 1) := by decide +kernel
theorem d_RM_range_6 : decode prog_13_method_14_code 6 = .ok (.getfield 133, 3) := by decide +kernel
theorem d_RM_range_9 : decode prog_13_method_14_code 9 = .ok (.imul, 1) := by decide +kernel
theorem d_RM_range_10 : decode prog_13_method_14_code 10 = .ok (.iadd, 1) := by decide +kernel
theorem d_RM_range_11 : decode prog_13_method_14_code 11 = .ok (.aload_n 0, 1) := by decide +kernel
theorem d_RM_range_12 : decode prog_13_method_14_code 12 = .ok (.invokevirtual 139, 3) := by decide +kernel
theorem d_RM_range_15 : decode prog_13_method_14_code 15 = .ok (.idiv, 1) := by decide +kernel
theorem d_RM_range_16 : decode prog_13_method_14_code 16 = .ok (.iconst 1, 1) := by decide +kernel
theorem d_RM_range_17 : decode prog_13_method_14_code 17 = .ok (.iadd, 1) := by decide +kernel
theorem d_RM_range_18 : decode prog_13_method_14_code 18 = .ok (.ireturn, 1) := by decide +kernel
def f_RM_range (k0 : Nat) (σ : Mem) : Option (Int32) :=
  if ((f_RM_step k0 σ) != 0) = true then
  some ((((σ k0 55) + ((2 : Int32) * (σ k0 54))) / (f_RM_step k0 σ)) + (1 : Int32))
  else none
set_option maxHeartbeats 4000000 in
set_option maxRecDepth 100000 in
theorem w_RM_range {F : Fx} (C : Ctx F prog_13_method_14_code 1 "LineFramesModel" (some .int) 1 20) {k0 : Nat} (h0k : Is k0 11) (σ : Mem) : J F 1 (cvO (cvI σ)) (f_RM_range k0 σ) σ 0 [(0, .ref (fad F k0))] [] := by
  unfold f_RM_range
  refine j_aload_n C d_RM_range_0 0 rfl ?_
  refine j_getI C h0k fl_RM_136 rfl d_RM_range_1 ?_
  refine j_iconst (v := (2 : Int32)) C d_RM_range_4 (by decide) ?_
  refine j_aload_n C d_RM_range_5 0 rfl ?_
  refine j_getI C h0k fl_RM_133 rfl d_RM_range_6 ?_
  refine j_imul C d_RM_range_9 ?_
  refine j_iadd C d_RM_range_10 ?_
  refine j_aload_n C d_RM_range_11 0 rfl ?_
  refine j_callVi C mv_RM_139 [] [.int ((σ k0 55) + ((2 : Int32) * (σ k0 54)))] h0k (c_RM_step h0k σ) rfl rfl (by decide) (Nat.le_of_ble_eq_true rfl) d_RM_range_12 ?_
  refine j_need rfl (fun g1 => ?_)
  refine j_idiv C d_RM_range_15 (ne_bne g1) ?_
  refine j_iconst (v := (1 : Int32)) C d_RM_range_16 (by decide) ?_
  refine j_iadd C d_RM_range_17 ?_
  exact j_ireti C (fun ρ h => leaf_eq h) d_RM_range_18
theorem c_RM_range {l : Launch} {D : va_G} {G : GC} {ad : Nat → Nat} {k0 : Nat} (h0k : Is k0 11) (σ : Mem) {q : Int32} (hq : f_RM_range k0 σ = some q) : Ctr l D G ad ⟨"LineFramesModel", "range", "()I"⟩ prog_13_method_14_code 1 (some .int) 1 20 [.ref (ad k0)] σ (.inl (some (.int q)), σ) := ctr_J (cv := (cvO (cvI σ))) (E := f_RM_range k0 σ) (by decide +kernel) (Nat.le_of_ble_eq_true rfl) (by rw [hq]; rfl) (fun F h C => by subst h; exact w_RM_range C h0k σ)
/-! LineFramesModel lengthOf (I)I -/
theorem d_RM_lengthOf_0 : decode prog_13_method_18_code 0 = .ok (.iconst 0, 1) := by decide +kernel
theorem d_RM_lengthOf_1 : decode prog_13_method_18_code 1 = .ok (.istore_n 2, 1) := by decide +kernel
theorem d_RM_lengthOf_2 : decode prog_13_method_18_code 2 = .ok (.iload_n 2, 1) := by decide +kernel
theorem d_RM_lengthOf_3 : decode prog_13_method_18_code 3 = .ok (.bipush 12, 2) := by decide +kernel
theorem d_RM_lengthOf_5 : decode prog_13_method_18_code 5 = .ok (.if_icmp .ge 26, 3) := by decide +kernel
theorem d_RM_lengthOf_8 : decode prog_13_method_18_code 8 = .ok (.aload_n 0, 1) := by decide +kernel
theorem d_RM_lengthOf_9 : decode prog_13_method_18_code 9 = .ok (.getfield 83, 3) := by decide +kernel
theorem d_RM_lengthOf_12 : decode prog_13_method_18_code 12 = .ok (.iload_n 1, 1) := by decide +kernel
theorem d_RM_lengthOf_13 : decode prog_13_method_18_code 13 = .ok (.iaload, 1) := by decide +kernel
theorem d_RM_lengthOf_14 : decode prog_13_method_18_code 14 = .ok (.iload_n 2, 1) := by decide +kernel
theorem d_RM_lengthOf_15 : decode prog_13_method_18_code 15 = .ok (.ishl, 1) := by decide +kernel
theorem d_RM_lengthOf_16 : decode prog_13_method_18_code 16 = .ok (.aload_n 0, 1) := by decide +kernel
theorem d_RM_lengthOf_17 : decode prog_13_method_18_code 17 = .ok (.getfield 80, 3) := by decide +kernel
theorem d_RM_lengthOf_20 : decode prog_13_method_18_code 20 = .ok (.iload_n 1, 1) := by decide +kernel
theorem d_RM_lengthOf_21 : decode prog_13_method_18_code 21 = .ok (.iaload, 1) := by decide +kernel
theorem d_RM_lengthOf_22 : decode prog_13_method_18_code 22 = .ok (.if_icmp .ge 9, 3) := by decide +kernel
theorem d_RM_lengthOf_25 : decode prog_13_method_18_code 25 = .ok (.iinc 2 1, 3) := by decide +kernel
theorem d_RM_lengthOf_28 : decode prog_13_method_18_code 28 = .ok (.goto (-26), 3) := by decide +kernel
theorem d_RM_lengthOf_31 : decode prog_13_method_18_code 31 = .ok (.iload_n 2, 1) := by decide +kernel
theorem d_RM_lengthOf_32 : decode prog_13_method_18_code 32 = .ok (.ireturn, 1) := by decide +kernel
def L_RM_lengthOf_2 (r0 : Nat) (b1 : Int32) (σ : Mem) : Nat → Int32 →  Option (Int32)
  | 0, _ => none
  | n + 1, a2 =>
  if (12 : Int32) ≤ a2 then
  some a2
  else
  if inb b1 (wln (wtg r0 53)) = true then
  if inb b1 (wln (wtg r0 52)) = true then
  if (σ (wtg r0 52) b1.toNatClampNeg) ≤ ((σ (wtg r0 53) b1.toNatClampNeg) <<< (a2 &&& 31)) then
  some a2
  else
  L_RM_lengthOf_2 r0 b1 σ n (a2 + (1 : Int32))
  else none
  else none
def f_RM_lengthOf (k0 : Nat) (x1 : Int32) (σ : Mem) : Option (Int32) :=
  (L_RM_lengthOf_2 k0 x1 σ 9999 (0 : Int32)).bind fun q5 =>
  some q5
set_option maxHeartbeats 4000000 in
set_option maxRecDepth 100000 in
theorem wL_RM_lengthOf_2 {F : Fx} (C : Ctx F prog_13_method_18_code 3 "LineFramesModel" (some .int) 0 0) {cv : Option (Int32) → Option Rs} (h0 : cv none = none) (r0 : Nat) (hr0 : Is r0 11) (b1 : Int32) (σ : Mem) (hex : ∀ q : Int32, J F 3 cv (some q) σ 31 [(0, .ref (fad F r0)), (1, .int b1), (2, .int q)] []) : ∀ (n : Nat) (a2 : Int32), J F 3 cv (L_RM_lengthOf_2 r0 b1 σ n a2) σ 2 [(0, .ref (fad F r0)), (1, .int b1), (2, .int a2)] [] := by
  intro n
  induction n with
  | zero => intro a2 hE; rw [L_RM_lengthOf_2, h0] at hE; cases hE
  | succ n ih =>
    intro a2
    rw [L_RM_lengthOf_2]
    refine j_iload_n C d_RM_lengthOf_2 2 rfl ?_
    refine j_bipush (v := (12 : Int32)) C d_RM_lengthOf_3 (by decide) ?_
    refine j_icmp_ge (tgt := 31) C d_RM_lengthOf_5 (by decide) (fun c1 => ?_) (fun c1 => ?_)
    · exact hex a2
    · refine j_aload_n C d_RM_lengthOf_8 0 rfl ?_
      refine j_getR C hr0 fl_RM_83 rfl d_RM_lengthOf_9 ?_
      refine j_iload_n C d_RM_lengthOf_12 1 rfl ?_
      refine j_need (by exact h0) (fun g2 => ?_)
      refine j_iald C (tg_11_53 _ hr0) (inb_in g2) d_RM_lengthOf_13 ?_
      refine j_iload_n C d_RM_lengthOf_14 2 rfl ?_
      refine j_ishl C d_RM_lengthOf_15 ?_
      refine j_aload_n C d_RM_lengthOf_16 0 rfl ?_
      refine j_getR C hr0 fl_RM_80 rfl d_RM_lengthOf_17 ?_
      refine j_iload_n C d_RM_lengthOf_20 1 rfl ?_
      refine j_need (by exact h0) (fun g3 => ?_)
      refine j_iald C (tg_11_52 _ hr0) (inb_in g3) d_RM_lengthOf_21 ?_
      refine j_icmp_ge (tgt := 31) C d_RM_lengthOf_22 (by decide) (fun c4 => ?_) (fun c4 => ?_)
      · exact hex a2
      · refine j_iinc (v := (a2 + (1 : Int32))) (lv9 := [(0, .ref (fad F r0)), (1, .int b1), (2, .int (a2 + (1 : Int32)))]) C d_RM_lengthOf_25 2 rfl rfl rfl rfl (by decide) ?_
        refine j_goto (tgt := 2) C d_RM_lengthOf_28 (by decide) ?_
        exact ih (a2 + (1 : Int32))
set_option maxHeartbeats 4000000 in
set_option maxRecDepth 100000 in
theorem w_RM_lengthOf {F : Fx} (C : Ctx F prog_13_method_18_code 3 "LineFramesModel" (some .int) 0 0) {k0 : Nat} (h0k : Is k0 11) (x1 : Int32) (σ : Mem) : J F 3 (cvO (cvI σ)) (f_RM_lengthOf k0 x1 σ) σ 0 [(0, .ref (fad F k0)), (1, .int x1)] [] := by
  unfold f_RM_lengthOf
  refine j_iconst (v := (0 : Int32)) C d_RM_lengthOf_0 (by decide) ?_
  refine j_istore_n (lv9 := [(0, .ref (fad F k0)), (1, .int x1), (2, .int (0 : Int32))]) C d_RM_lengthOf_1 rfl rfl (by decide) ?_
  refine j_loop (wL_RM_lengthOf_2 C rfl k0 h0k x1 σ (fun q5 => j_some ?_) 9999 (0 : Int32))
  refine j_iload_n C d_RM_lengthOf_31 2 rfl ?_
  exact j_ireti C (fun ρ h => leaf_eq h) d_RM_lengthOf_32
theorem c_RM_lengthOf {l : Launch} {D : va_G} {G : GC} {ad : Nat → Nat} {k0 : Nat} (h0k : Is k0 11) (x1 : Int32) (σ : Mem) {q : Int32} (hq : f_RM_lengthOf k0 x1 σ = some q) : Ctr l D G ad ⟨"LineFramesModel", "lengthOf", "(I)I"⟩ prog_13_method_18_code 3 (some .int) 0 0 [.ref (ad k0), .int x1] σ (.inl (some (.int q)), σ) := ctr_J (cv := (cvO (cvI σ))) (E := f_RM_lengthOf k0 x1 σ) (by decide +kernel) (Nat.le_of_ble_eq_true rfl) (by rw [hq]; rfl) (fun F h C => by subst h; exact w_RM_lengthOf C h0k x1 σ)
/-! LineFramesModel bit (I)V -/
theorem d_RM_bit_0 : decode prog_13_method_23_code 0 = .ok (.aload_n 0, 1) := by decide +kernel
theorem d_RM_bit_1 : decode prog_13_method_23_code 1 = .ok (.iconst 2, 1) := by decide +kernel
theorem d_RM_bit_2 : decode prog_13_method_23_code 2 = .ok (.aload_n 0, 1) := by decide +kernel
theorem d_RM_bit_3 : decode prog_13_method_23_code 3 = .ok (.getfield 156, 3) := by decide +kernel
theorem d_RM_bit_6 : decode prog_13_method_23_code 6 = .ok (.imul, 1) := by decide +kernel
theorem d_RM_bit_7 : decode prog_13_method_23_code 7 = .ok (.iload_n 1, 1) := by decide +kernel
theorem d_RM_bit_8 : decode prog_13_method_23_code 8 = .ok (.iadd, 1) := by decide +kernel
theorem d_RM_bit_9 : decode prog_13_method_23_code 9 = .ok (.putfield 156, 3) := by decide +kernel
theorem d_RM_bit_12 : decode prog_13_method_23_code 12 = .ok (.aload_n 0, 1) := by decide +kernel
theorem d_RM_bit_13 : decode prog_13_method_23_code 13 = .ok (.dup, 1) := by decide +kernel
theorem d_RM_bit_14 : decode prog_13_method_23_code 14 = .ok (.getfield 159, 3) := by decide +kernel
theorem d_RM_bit_17 : decode prog_13_method_23_code 17 = .ok (.iconst 1, 1) := by decide +kernel
theorem d_RM_bit_18 : decode prog_13_method_23_code 18 = .ok (.iadd, 1) := by decide +kernel
theorem d_RM_bit_19 : decode prog_13_method_23_code 19 = .ok (.putfield 159, 3) := by decide +kernel
theorem d_RM_bit_22 : decode prog_13_method_23_code 22 = .ok (.aload_n 0, 1) := by decide +kernel
theorem d_RM_bit_23 : decode prog_13_method_23_code 23 = .ok (.getfield 159, 3) := by decide +kernel
theorem d_RM_bit_26 : decode prog_13_method_23_code 26 = .ok (.aload_n 0, 1) := by decide +kernel
theorem d_RM_bit_27 : decode prog_13_method_23_code 27 = .ok (.getfield 162, 3) := by decide +kernel
theorem d_RM_bit_30 : decode prog_13_method_23_code 30 = .ok (.if_icmp .ne 42, 3) := by decide +kernel
theorem d_RM_bit_33 : decode prog_13_method_23_code 33 = .ok (.aload_n 0, 1) := by decide +kernel
theorem d_RM_bit_34 : decode prog_13_method_23_code 34 = .ok (.aload_n 0, 1) := by decide +kernel
theorem d_RM_bit_35 : decode prog_13_method_23_code 35 = .ok (.getfield 156, 3) := by decide +kernel
theorem d_RM_bit_38 : decode prog_13_method_23_code 38 = .ok (.invokevirtual 149, 3) := by decide +kernel
theorem d_RM_bit_41 : decode prog_13_method_23_code 41 = .ok (.aload_n 0, 1) := by decide +kernel
theorem d_RM_bit_42 : decode prog_13_method_23_code 42 = .ok (.aload_n 0, 1) := by decide +kernel
theorem d_RM_bit_43 : decode prog_13_method_23_code 43 = .ok (.getfield 156, 3) := by decide +kernel
theorem d_RM_bit_46 : decode prog_13_method_23_code 46 = .ok (.sipush 255, 3) := by decide +kernel
theorem d_RM_bit_49 : decode prog_13_method_23_code 49 = .ok (.if_icmp .ne 8, 3) := by decide +kernel
theorem d_RM_bit_52 : decode prog_13_method_23_code 52 = .ok (.bipush 7, 2) := by decide +kernel
theorem d_RM_bit_54 : decode prog_13_method_23_code 54 = .ok (.goto 5, 3) := by decide +kernel
theorem d_RM_bit_57 : decode prog_13_method_23_code 57 = .ok (.bipush 8, 2) := by decide +kernel
theorem d_RM_bit_59 : decode prog_13_method_23_code 59 = .ok (.putfield 162, 3) := by decide +kernel
theorem d_RM_bit_62 : decode prog_13_method_23_code 62 = .ok (.aload_n 0, 1) := by decide +kernel
theorem d_RM_bit_63 : decode prog_13_method_23_code 63 = .ok (.iconst 0, 1) := by decide +kernel
theorem d_RM_bit_64 : decode prog_13_method_23_code 64 = .ok (.putfield 156, 3) := by decide +kernel
theorem d_RM_bit_67 : decode prog_13_method_23_code 67 = .ok (.aload_n 0, 1) := by decide +kernel
theorem d_RM_bit_68 : decode prog_13_method_23_code 68 = .ok (.iconst 0, 1) := by decide +kernel
theorem d_RM_bit_69 : decode prog_13_method_23_code 69 = .ok (.putfield 159, 3) := by decide +kernel
theorem d_RM_bit_72 : decode prog_13_method_23_code 72 = .ok (.return_, 1) := by decide +kernel
def f_RM_bit (k0 : Nat) (x1 : Int32) (σ : Mem) : Option (Mem) :=
  lt (mput σ k0 57 (((2 : Int32) * (σ k0 57)) + x1)) fun σ1 =>
  lt (mput σ1 k0 58 ((σ1 k0 58) + (1 : Int32))) fun σ2 =>
  if (σ2 k0 58) = (σ2 k0 59) then
  (f_RM_lay k0 (σ2 k0 57) σ2).bind fun σ7 =>
  lt (mput σ7 k0 59 (if (σ7 k0 57) = (255 : Int32) then (7 : Int32) else (8 : Int32))) fun σ10 =>
  lt (mput σ10 k0 57 (0 : Int32)) fun σ11 =>
  lt (mput σ11 k0 58 (0 : Int32)) fun σ12 =>
  some (σ12)
  else
  some (σ2)
set_option maxHeartbeats 4000000 in
set_option maxRecDepth 100000 in
theorem w_RM_bit {F : Fx} (C : Ctx F prog_13_method_23_code 2 "LineFramesModel" none 1 21) {k0 : Nat} (h0k : Is k0 11) (x1 : Int32) (σ : Mem) : J F 2 (cvO cvM) (f_RM_bit k0 x1 σ) σ 0 [(0, .ref (fad F k0)), (1, .int x1)] [] := by
  unfold f_RM_bit
  refine j_aload_n C d_RM_bit_0 0 rfl ?_
  refine j_iconst (v := (2 : Int32)) C d_RM_bit_1 (by decide) ?_
  refine j_aload_n C d_RM_bit_2 0 rfl ?_
  refine j_getI C h0k fl_RM_156 rfl d_RM_bit_3 ?_
  refine j_imul C d_RM_bit_6 ?_
  refine j_iload_n C d_RM_bit_7 1 rfl ?_
  refine j_iadd C d_RM_bit_8 ?_
  refine j_put C h0k fl_RM_156 fw_11_57 rfl rfl rfl d_RM_bit_9 (fun σ1 => ?_)
  refine j_aload_n C d_RM_bit_12 0 rfl ?_
  refine j_dup C d_RM_bit_13 rfl ?_
  refine j_getI C h0k fl_RM_159 rfl d_RM_bit_14 ?_
  refine j_iconst (v := (1 : Int32)) C d_RM_bit_17 (by decide) ?_
  refine j_iadd C d_RM_bit_18 ?_
  refine j_put C h0k fl_RM_159 fw_11_58 rfl rfl rfl d_RM_bit_19 (fun σ2 => ?_)
  refine j_aload_n C d_RM_bit_22 0 rfl ?_
  refine j_getI C h0k fl_RM_159 rfl d_RM_bit_23 ?_
  refine j_aload_n C d_RM_bit_26 0 rfl ?_
  refine j_getI C h0k fl_RM_162 rfl d_RM_bit_27 ?_
  refine j_icmp_ne (tgt := 72) C d_RM_bit_30 (by decide) (fun c5 => ?_) (fun c5 => ?_)
  · exact j_vret C (fun ρ h => leaf_eq h) d_RM_bit_72
  · refine j_aload_n C d_RM_bit_33 0 rfl ?_
    refine j_aload_n C d_RM_bit_34 0 rfl ?_
    refine j_getI C h0k fl_RM_156 rfl d_RM_bit_35 ?_
    refine j_bind rfl (fun σ7 e6 => ?_)
    refine j_callVv C mv_RM_149 [.int (σ2 k0 57)] [] h0k (c_RM_lay h0k (σ2 k0 57) σ2 e6) rfl rfl (by decide) (Nat.le_of_ble_eq_true rfl) d_RM_bit_38 ?_
    refine j_aload_n C d_RM_bit_41 0 rfl ?_
    refine j_aload_n C d_RM_bit_42 0 rfl ?_
    refine j_getI C h0k fl_RM_156 rfl d_RM_bit_43 ?_
    refine j_sipush (v := (255 : Int32)) C d_RM_bit_46 (by decide) ?_
    refine d_icmp_ne (a := (7 : Int32)) (b := (8 : Int32)) (jp := 59) (tgt := 57) C d_RM_bit_49 (by decide) (fun c8 k9 => ?_) (fun c8 k9 => ?_) ?_
    · refine j_bipush (v := (8 : Int32)) C d_RM_bit_57 (by decide) ?_
      exact k9
    · refine j_bipush (v := (7 : Int32)) C d_RM_bit_52 (by decide) ?_
      refine j_goto (tgt := 59) C d_RM_bit_54 (by decide) ?_
      exact k9
    refine j_put C h0k fl_RM_162 fw_11_59 rfl rfl rfl d_RM_bit_59 (fun σ10 => ?_)
    refine j_aload_n C d_RM_bit_62 0 rfl ?_
    refine j_iconst (v := (0 : Int32)) C d_RM_bit_63 (by decide) ?_
    refine j_put C h0k fl_RM_156 fw_11_57 rfl rfl rfl d_RM_bit_64 (fun σ11 => ?_)
    refine j_aload_n C d_RM_bit_67 0 rfl ?_
    refine j_iconst (v := (0 : Int32)) C d_RM_bit_68 (by decide) ?_
    refine j_put C h0k fl_RM_159 fw_11_58 rfl rfl rfl d_RM_bit_69 (fun σ12 => ?_)
    exact j_vret C (fun ρ h => leaf_eq h) d_RM_bit_72
theorem c_RM_bit {l : Launch} {D : va_G} {G : GC} {ad : Nat → Nat} {k0 : Nat} (h0k : Is k0 11) (x1 : Int32) (σ : Mem) {q : Mem} (hq : f_RM_bit k0 x1 σ = some q) : Ctr l D G ad ⟨"LineFramesModel", "bit", "(I)V"⟩ prog_13_method_23_code 2 none 1 21 [.ref (ad k0), .int x1] σ (.inl none, q) := ctr_J (cv := (cvO cvM)) (E := f_RM_bit k0 x1 σ) (by decide +kernel) (Nat.le_of_ble_eq_true rfl) (by rw [hq]; rfl) (fun F h C => by subst h; exact w_RM_bit C h0k x1 σ)
/-! LineFramesModel lowBits (II)V -/
theorem d_RM_lowBits_0 : decode prog_13_method_24_code 0 = .ok (.iload_n 2, 1) := by decide +kernel
theorem d_RM_lowBits_1 : decode prog_13_method_24_code 1 = .ok (.iconst 1, 1) := by decide +kernel
theorem d_RM_lowBits_2 : decode prog_13_method_24_code 2 = .ok (.isub, 1) := by decide +kernel
theorem d_RM_lowBits_3 : decode prog_13_method_24_code 3 = .ok (.istore_n 3, 1) := by decide +kernel
theorem d_RM_lowBits_4 : decode prog_13_method_24_code 4 = .ok (.iload_n 3, 1) := by decide +kernel
theorem d_RM_lowBits_5 : decode prog_13_method_24_code 5 = .ok (.ifCond .lt 18, 3) := by decide +kernel
theorem d_RM_lowBits_8 : decode prog_13_method_24_code 8 = .ok (.aload_n 0, 1) := by decide +kernel
theorem d_RM_lowBits_9 : decode prog_13_method_24_code 9 = .ok (.iload_n 1, 1) := by decide +kernel
theorem d_RM_lowBits_10 : decode prog_13_method_24_code 10 = .ok (.iload_n 3, 1) := by decide +kernel
theorem d_RM_lowBits_11 : decode prog_13_method_24_code 11 = .ok (.ishr, 1) := by decide +kernel
theorem d_RM_lowBits_12 : decode prog_13_method_24_code 12 = .ok (.iconst 1, 1) := by decide +kernel
theorem d_RM_lowBits_13 : decode prog_13_method_24_code 13 = .ok (.iand, 1) := by decide +kernel
theorem d_RM_lowBits_14 : decode prog_13_method_24_code 14 = .ok (.invokevirtual 165, 3) := by decide +kernel
theorem d_RM_lowBits_17 : decode prog_13_method_24_code 17 = .ok (.iinc 3 (-1), 3) := by decide +kernel
theorem d_RM_lowBits_20 : decode prog_13_method_24_code 20 = .ok (.goto (-16), 3) := by decide +kernel
theorem d_RM_lowBits_23 : decode prog_13_method_24_code 23 = .ok (.return_, 1) := by decide +kernel
def L_RM_lowBits_4 (r0 : Nat) (b1 : Int32) (b2 : Int32) : Nat → Int32 → Mem →  Option (Int32 × Mem)
  | 0, _, _ => none
  | n + 1, a3, σ =>
  if a3 < 0 then
  some (a3, σ)
  else
  (f_RM_bit r0 ((b1 >>> (a3 &&& 31)) &&& (1 : Int32)) σ).bind fun σ3 =>
  L_RM_lowBits_4 r0 b1 b2 n (a3 + (-1 : Int32)) σ3
def f_RM_lowBits (k0 : Nat) (x1 : Int32) (x2 : Int32) (σ : Mem) : Option (Mem) :=
  (L_RM_lowBits_4 k0 x1 x2 9999 (x2 - (1 : Int32)) σ).bind fun q4 =>
  some (q4.2)
set_option maxHeartbeats 4000000 in
set_option maxRecDepth 100000 in
theorem wL_RM_lowBits_4 {F : Fx} (C : Ctx F prog_13_method_24_code 4 "LineFramesModel" none 2 42) {cv : Option (Int32 × Mem) → Option Rs} (h0 : cv none = none) (r0 : Nat) (hr0 : Is r0 11) (b1 : Int32) (b2 : Int32) (hex : ∀ q : Int32 × Mem, J F 4 cv (some q) q.2 23 [(0, .ref (fad F r0)), (1, .int b1), (2, .int b2), (3, .int q.1)] []) : ∀ (n : Nat) (a3 : Int32) (σ : Mem), J F 4 cv (L_RM_lowBits_4 r0 b1 b2 n a3 σ) σ 4 [(0, .ref (fad F r0)), (1, .int b1), (2, .int b2), (3, .int a3)] [] := by
  intro n
  induction n with
  | zero => intro a3 σ hE; rw [L_RM_lowBits_4, h0] at hE; cases hE
  | succ n ih =>
    intro a3 σ
    rw [L_RM_lowBits_4]
    refine j_iload_n C d_RM_lowBits_4 3 rfl ?_
    refine j_if_lt (tgt := 23) C d_RM_lowBits_5 (by decide) (fun c1 => ?_) (fun c1 => ?_)
    · exact hex (a3, σ)
    · refine j_aload_n C d_RM_lowBits_8 0 rfl ?_
      refine j_iload_n C d_RM_lowBits_9 1 rfl ?_
      refine j_iload_n C d_RM_lowBits_10 3 rfl ?_
      refine j_ishr C d_RM_lowBits_11 ?_
      refine j_iconst (v := (1 : Int32)) C d_RM_lowBits_12 (by decide) ?_
      refine j_iand C d_RM_lowBits_13 ?_
      refine j_bind (by exact h0) (fun σ3 e2 => ?_)
      refine j_callVv C mv_RM_165 [.int ((b1 >>> (a3 &&& 31)) &&& (1 : Int32))] [] hr0 (c_RM_bit hr0 ((b1 >>> (a3 &&& 31)) &&& (1 : Int32)) σ e2) rfl rfl (by decide) (Nat.le_of_ble_eq_true rfl) d_RM_lowBits_14 ?_
      refine j_iinc (v := (a3 + (-1 : Int32))) (lv9 := [(0, .ref (fad F r0)), (1, .int b1), (2, .int b2), (3, .int (a3 + (-1 : Int32)))]) C d_RM_lowBits_17 3 rfl rfl rfl rfl (by decide) ?_
      refine j_goto (tgt := 4) C d_RM_lowBits_20 (by decide) ?_
      exact ih (a3 + (-1 : Int32)) σ3
set_option maxHeartbeats 4000000 in
set_option maxRecDepth 100000 in
theorem w_RM_lowBits {F : Fx} (C : Ctx F prog_13_method_24_code 4 "LineFramesModel" none 2 42) {k0 : Nat} (h0k : Is k0 11) (x1 : Int32) (x2 : Int32) (σ : Mem) : J F 4 (cvO cvM) (f_RM_lowBits k0 x1 x2 σ) σ 0 [(0, .ref (fad F k0)), (1, .int x1), (2, .int x2)] [] := by
  unfold f_RM_lowBits
  refine j_iload_n C d_RM_lowBits_0 2 rfl ?_
  refine j_iconst (v := (1 : Int32)) C d_RM_lowBits_1 (by decide) ?_
  refine j_isub C d_RM_lowBits_2 ?_
  refine j_istore_n (lv9 := [(0, .ref (fad F k0)), (1, .int x1), (2, .int x2), (3, .int (x2 - (1 : Int32)))]) C d_RM_lowBits_3 rfl rfl (by decide) ?_
  refine j_loop (wL_RM_lowBits_4 C rfl k0 h0k x1 x2 (fun q4 => j_some ?_) 9999 (x2 - (1 : Int32)) σ)
  exact j_vret C (fun ρ h => leaf_eq h) d_RM_lowBits_23
theorem c_RM_lowBits {l : Launch} {D : va_G} {G : GC} {ad : Nat → Nat} {k0 : Nat} (h0k : Is k0 11) (x1 : Int32) (x2 : Int32) (σ : Mem) {q : Mem} (hq : f_RM_lowBits k0 x1 x2 σ = some q) : Ctr l D G ad ⟨"LineFramesModel", "lowBits", "(II)V"⟩ prog_13_method_24_code 4 none 2 42 [.ref (ad k0), .int x1, .int x2] σ (.inl none, q) := ctr_J (cv := (cvO cvM)) (E := f_RM_lowBits k0 x1 x2 σ) (by decide +kernel) (Nat.le_of_ble_eq_true rfl) (by rw [hq]; rfl) (fun F h C => by subst h; exact w_RM_lowBits C h0k x1 x2 σ)
/-! LineFramesModel count (III)V -/
theorem d_RM_count_0 : decode prog_13_method_19_code 0 = .ok (.aload_n 0, 1) := by decide +kernel
theorem d_RM_count_1 : decode prog_13_method_19_code 1 = .ok (.getfield 83, 3) := by decide +kernel
theorem d_RM_count_4 : decode prog_13_method_19_code 4 = .ok (.iload_n 1, 1) := by decide +kernel
theorem d_RM_count_5 : decode prog_13_method_19_code 5 = .ok (.iaload, 1) := by decide +kernel
theorem d_RM_count_6 : decode prog_13_method_19_code 6 = .ok (.iload_n 3, 1) := by decide +kernel
theorem d_RM_count_7 : decode prog_13_method_19_code 7 = .ok (.if_icmp .ne 23, 3) := by decide +kernel
theorem d_RM_count_10 : decode prog_13_method_19_code 10 = .ok (.aload_n 0, 1) := by decide +kernel
theorem d_RM_count_11 : decode prog_13_method_19_code 11 = .ok (.getfield 80, 3) := by decide +kernel
theorem d_RM_count_14 : decode prog_13_method_19_code 14 = .ok (.iload_n 1, 1) := by decide +kernel
theorem d_RM_count_15 : decode prog_13_method_19_code 15 = .ok (.dup2, 1) := by decide +kernel
theorem d_RM_count_16 : decode prog_13_method_19_code 16 = .ok (.iaload, 1) := by decide +kernel
theorem d_RM_count_17 : decode prog_13_method_19_code 17 = .ok (.iconst 2, 1) := by decide +kernel
theorem d_RM_count_18 : decode prog_13_method_19_code 18 = .ok (.idiv, 1) := by decide +kernel
theorem d_RM_count_19 : decode prog_13_method_19_code 19 = .ok (.iastore, 1) := by decide +kernel
theorem d_RM_count_20 : decode prog_13_method_19_code 20 = .ok (.aload_n 0, 1) := by decide +kernel
theorem d_RM_count_21 : decode prog_13_method_19_code 21 = .ok (.getfield 83, 3) := by decide +kernel
theorem d_RM_count_24 : decode prog_13_method_19_code 24 = .ok (.iload_n 1, 1) := by decide +kernel
theorem d_RM_count_25 : decode prog_13_method_19_code 25 = .ok (.dup2, 1) := by decide +kernel
theorem d_RM_count_26 : decode prog_13_method_19_code 26 = .ok (.iaload, 1) := by decide +kernel
theorem d_RM_count_27 : decode prog_13_method_19_code 27 = .ok (.iconst 2, 1) := by decide +kernel
theorem d_RM_count_28 : decode prog_13_method_19_code 28 = .ok (.idiv, 1) := by decide +kernel
theorem d_RM_count_29 : decode prog_13_method_19_code 29 = .ok (.iastore, 1) := by decide +kernel
theorem d_RM_count_30 : decode prog_13_method_19_code 30 = .ok (.aload_n 0, 1) := by decide +kernel
theorem d_RM_count_31 : decode prog_13_method_19_code 31 = .ok (.getfield 80, 3) := by decide +kernel
theorem d_RM_count_34 : decode prog_13_method_19_code 34 = .ok (.iload_n 1, 1) := by decide +kernel
theorem d_RM_count_35 : decode prog_13_method_19_code 35 = .ok (.dup2, 1) := by decide +kernel
theorem d_RM_count_36 : decode prog_13_method_19_code 36 = .ok (.iaload, 1) := by decide +kernel
theorem d_RM_count_37 : decode prog_13_method_19_code 37 = .ok (.iload_n 2, 1) := by decide +kernel
theorem d_RM_count_38 : decode prog_13_method_19_code 38 = .ok (.ifCond .ge 8, 3) := by decide +kernel
theorem d_RM_count_41 : decode prog_13_method_19_code 41 = .ok (.iload_n 2, 1) := by decide +kernel
theorem d_RM_count_42 : decode prog_13_method_19_code 42 = .ok (.ineg, 1) := by decide +kernel
theorem d_RM_count_43 : decode prog_13_method_19_code 43 = .ok (.goto 4, 3) := by decide +kernel
theorem d_RM_count_46 : decode prog_13_method_19_code 46 = .ok (.iload_n 2, 1) := by decide +kernel
theorem d_RM_count_47 : decode prog_13_method_19_code 47 = .ok (.iadd, 1) := by decide +kernel
theorem d_RM_count_48 : decode prog_13_method_19_code 48 = .ok (.iastore, 1) := by decide +kernel
theorem d_RM_count_49 : decode prog_13_method_19_code 49 = .ok (.aload_n 0, 1) := by decide +kernel
theorem d_RM_count_50 : decode prog_13_method_19_code 50 = .ok (.getfield 83, 3) := by decide +kernel
theorem d_RM_count_53 : decode prog_13_method_19_code 53 = .ok (.iload_n 1, 1) := by decide +kernel
theorem d_RM_count_54 : decode prog_13_method_19_code 54 = .ok (.dup2, 1) := by decide +kernel
theorem d_RM_count_55 : decode prog_13_method_19_code 55 = .ok (.iaload, 1) := by decide +kernel
theorem d_RM_count_56 : decode prog_13_method_19_code 56 = .ok (.iconst 1, 1) := by decide +kernel
theorem d_RM_count_57 : decode prog_13_method_19_code 57 = .ok (.iadd, 1) := by decide +kernel
theorem d_RM_count_58 : decode prog_13_method_19_code 58 = .ok (.iastore, 1) := by decide +kernel
theorem d_RM_count_59 : decode prog_13_method_19_code 59 = .ok (.return_, 1) := by decide +kernel
def f_RM_count (k0 : Nat) (x1 : Int32) (x2 : Int32) (x3 : Int32) (σ : Mem) : Option (Mem) :=
  if inb x1 (wln (wtg k0 53)) = true then
  lt (fun  (σ47 : Mem) => 
  if inb x1 (wln (wtg k0 52)) = true then
  if inb x1 (wln (wtg k0 52)) = true then
  lt (mput σ47 (wtg k0 52) x1.toNatClampNeg ((σ47 (wtg k0 52) x1.toNatClampNeg) + (if 0 ≤ x2 then x2 else (-x2)))) fun σ54 =>
  if inb x1 (wln (wtg k0 53)) = true then
  if inb x1 (wln (wtg k0 53)) = true then
  lt (mput σ54 (wtg k0 53) x1.toNatClampNeg ((σ54 (wtg k0 53) x1.toNatClampNeg) + (1 : Int32))) fun σ57 =>
  some (σ57)
  else none
  else none
  else none
  else none) fun K48 =>
  if (σ (wtg k0 53) x1.toNatClampNeg) = x3 then
  if inb x1 (wln (wtg k0 52)) = true then
  if inb x1 (wln (wtg k0 52)) = true then
  lt (mput σ (wtg k0 52) x1.toNatClampNeg ((σ (wtg k0 52) x1.toNatClampNeg) / (2 : Int32))) fun σ61 =>
  if inb x1 (wln (wtg k0 53)) = true then
  if inb x1 (wln (wtg k0 53)) = true then
  lt (mput σ61 (wtg k0 53) x1.toNatClampNeg ((σ61 (wtg k0 53) x1.toNatClampNeg) / (2 : Int32))) fun σ64 =>
  K48 σ64
  else none
  else none
  else none
  else none
  else
  K48 σ
  else none
set_option maxHeartbeats 4000000 in
set_option maxRecDepth 100000 in
theorem w_RM_count {F : Fx} (C : Ctx F prog_13_method_19_code 4 "LineFramesModel" none 0 0) {k0 : Nat} (h0k : Is k0 11) (x1 : Int32) (x2 : Int32) (x3 : Int32) (σ : Mem) : J F 4 (cvO cvM) (f_RM_count k0 x1 x2 x3 σ) σ 0 [(0, .ref (fad F k0)), (1, .int x1), (2, .int x2), (3, .int x3)] [] := by
  unfold f_RM_count
  refine j_aload_n C d_RM_count_0 0 rfl ?_
  refine j_getR C h0k fl_RM_83 rfl d_RM_count_1 ?_
  refine j_iload_n C d_RM_count_4 1 rfl ?_
  refine j_need rfl (fun g1 => ?_)
  refine j_iald C (tg_11_53 _ h0k) (inb_in g1) d_RM_count_5 ?_
  refine j_iload_n C d_RM_count_6 3 rfl ?_
  refine j_join0m 30 (fun _ => [(0, .ref (fad F k0)), (1, .int x1), (2, .int x2), (3, .int x3)]) (fun _ => []) (fun σ47 => ?_) (fun K48 H49 => ?_)
  · refine j_aload_n C d_RM_count_30 0 rfl ?_
    refine j_getR C h0k fl_RM_80 rfl d_RM_count_31 ?_
    refine j_iload_n C d_RM_count_34 1 rfl ?_
    refine j_dup2 C d_RM_count_35 rfl rfl ?_
    refine j_need rfl (fun g50 => ?_)
    refine j_iald C (tg_11_52 _ h0k) (inb_in g50) d_RM_count_36 ?_
    refine j_iload_n C d_RM_count_37 2 rfl ?_
    refine d_if_ge (a := x2) (b := (-x2)) (jp := 47) (tgt := 46) C d_RM_count_38 (by decide) (fun c51 k52 => ?_) (fun c51 k52 => ?_) ?_
    · refine j_iload_n C d_RM_count_46 2 rfl ?_
      exact k52
    · refine j_iload_n C d_RM_count_41 2 rfl ?_
      refine j_ineg C d_RM_count_42 ?_
      refine j_goto (tgt := 47) C d_RM_count_43 (by decide) ?_
      exact k52
    refine j_iadd C d_RM_count_47 ?_
    refine j_need rfl (fun g53 => ?_)
    refine j_iast C (tg_11_52 _ h0k) (inb_in g53) d_RM_count_48 (fun σ54 => ?_)
    refine j_aload_n C d_RM_count_49 0 rfl ?_
    refine j_getR C h0k fl_RM_83 rfl d_RM_count_50 ?_
    refine j_iload_n C d_RM_count_53 1 rfl ?_
    refine j_dup2 C d_RM_count_54 rfl rfl ?_
    refine j_need rfl (fun g55 => ?_)
    refine j_iald C (tg_11_53 _ h0k) (inb_in g55) d_RM_count_55 ?_
    refine j_iconst (v := (1 : Int32)) C d_RM_count_56 (by decide) ?_
    refine j_iadd C d_RM_count_57 ?_
    refine j_need rfl (fun g56 => ?_)
    refine j_iast C (tg_11_53 _ h0k) (inb_in g56) d_RM_count_58 (fun σ57 => ?_)
    exact j_vret C (fun ρ h => leaf_eq h) d_RM_count_59
  · refine j_icmp_ne (tgt := 30) C d_RM_count_7 (by decide) (fun c58 => ?_) (fun c58 => ?_)
    · exact H49 σ
    · refine j_aload_n C d_RM_count_10 0 rfl ?_
      refine j_getR C h0k fl_RM_80 rfl d_RM_count_11 ?_
      refine j_iload_n C d_RM_count_14 1 rfl ?_
      refine j_dup2 C d_RM_count_15 rfl rfl ?_
      refine j_need rfl (fun g59 => ?_)
      refine j_iald C (tg_11_52 _ h0k) (inb_in g59) d_RM_count_16 ?_
      refine j_iconst (v := (2 : Int32)) C d_RM_count_17 (by decide) ?_
      refine j_idiv C d_RM_count_18 (by decide) ?_
      refine j_need rfl (fun g60 => ?_)
      refine j_iast C (tg_11_52 _ h0k) (inb_in g60) d_RM_count_19 (fun σ61 => ?_)
      refine j_aload_n C d_RM_count_20 0 rfl ?_
      refine j_getR C h0k fl_RM_83 rfl d_RM_count_21 ?_
      refine j_iload_n C d_RM_count_24 1 rfl ?_
      refine j_dup2 C d_RM_count_25 rfl rfl ?_
      refine j_need rfl (fun g62 => ?_)
      refine j_iald C (tg_11_53 _ h0k) (inb_in g62) d_RM_count_26 ?_
      refine j_iconst (v := (2 : Int32)) C d_RM_count_27 (by decide) ?_
      refine j_idiv C d_RM_count_28 (by decide) ?_
      refine j_need rfl (fun g63 => ?_)
      refine j_iast C (tg_11_53 _ h0k) (inb_in g63) d_RM_count_29 (fun σ64 => ?_)
      exact H49 σ64
theorem c_RM_count {l : Launch} {D : va_G} {G : GC} {ad : Nat → Nat} {k0 : Nat} (h0k : Is k0 11) (x1 : Int32) (x2 : Int32) (x3 : Int32) (σ : Mem) {q : Mem} (hq : f_RM_count k0 x1 x2 x3 σ = some q) : Ctr l D G ad ⟨"LineFramesModel", "count", "(III)V"⟩ prog_13_method_19_code 4 none 0 0 [.ref (ad k0), .int x1, .int x2, .int x3] σ (.inl none, q) := ctr_J (cv := (cvO cvM)) (E := f_RM_count k0 x1 x2 x3 σ) (by decide +kernel) (Nat.le_of_ble_eq_true rfl) (by rw [hq]; rfl) (fun F h C => by subst h; exact w_RM_count C h0k x1 x2 x3 σ)
