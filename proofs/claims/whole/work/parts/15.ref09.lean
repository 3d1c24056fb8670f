/-! LineFramesModel at (IIIZ)I -/
theorem d_RM_at_0 : decode prog_13_method_55_code 0 = .ok (.aload_n 0, 1) := by decide +kernel
theorem d_RM_at_1 : decode prog_13_method_55_code 1 = .ok (.aload_n 0, 1) := by decide +kernel
theorem d_RM_at_2 : decode prog_13_method_55_code 2 = .ok (.getfield 330, 3) := by decide +kernel
theorem d_RM_at_5 : decode prog_13_method_55_code 5 = .ok (.ifCond .ne 7, 3) := by decide +kernel
theorem d_RM_at_8 : decode prog_13_method_55_code 8 = .ok (.iconst 1, 1) := by decide +kernel
theorem d_RM_at_9 : decode prog_13_method_55_code 9 = .ok (.goto 56, 3) := by decide +kernel
theorem d_RM_at_12 : decode prog_13_method_55_code 12 = .ok (.iload_n 1, 1) := by decide +kernel
theorem d_RM_at_13 : decode prog_13_method_55_code 13 = .ok (.iconst 0, 1) := by decide +kernel
theorem d_RM_at_14 : decode prog_13_method_55_code 14 = .ok (.aload_n 0, 1) := by decide +kernel
theorem d_RM_at_15 : decode prog_13_method_55_code 15 = .ok (.getfield 35, 3) := by decide +kernel
theorem d_RM_at_18 : decode prog_13_method_55_code 18 = .ok (.iconst 3, 1) := by decide +kernel
theorem d_RM_at_19 : decode prog_13_method_55_code 19 = .ok (.iaload, 1) := by decide +kernel
theorem d_RM_at_20 : decode prog_13_method_55_code 20 = .ok (.iconst 1, 1) := by decide +kernel
theorem d_RM_at_21 : decode prog_13_method_55_code 21 = .ok (.isub, 1) := by decide +kernel
theorem d_RM_at_22 : decode prog_13_method_55_code 22 = .ok (.invokestatic 93, 3) := by decide +kernel
theorem d_RM_at_25 : decode prog_13_method_55_code 25 = .ok (.ifCond .eq 35, 3) := by decide +kernel
theorem d_RM_at_28 : decode prog_13_method_55_code 28 = .ok (.iload_n 2, 1) := by decide +kernel
theorem d_RM_at_29 : decode prog_13_method_55_code 29 = .ok (.iconst 0, 1) := by decide +kernel
theorem d_RM_at_30 : decode prog_13_method_55_code 30 = .ok (.aload_n 0, 1) := by decide +kernel
theorem d_RM_at_31 : decode prog_13_method_55_code 31 = .ok (.getfield 35, 3) := by decide +kernel
theorem d_RM_at_34 : decode prog_13_method_55_code 34 = .ok (.iconst 0, 1) := by decide +kernel
theorem d_RM_at_35 : decode prog_13_method_55_code 35 = .ok (.iaload, 1) := by decide +kernel
theorem d_RM_at_36 : decode prog_13_method_55_code 36 = .ok (.iconst 1, 1) := by decide +kernel
theorem d_RM_at_37 : decode prog_13_method_55_code 37 = .ok (.isub, 1) := by decide +kernel
theorem d_RM_at_38 : decode prog_13_method_55_code 38 = .ok (.invokestatic 93, 3) := by decide +kernel
theorem d_RM_at_41 : decode prog_13_method_55_code 41 = .ok (.ifCond .eq 19, 3) := by decide +kernel
theorem d_RM_at_44 : decode prog_13_method_55_code 44 = .ok (.iload_n 3, 1) := by decide +kernel
theorem d_RM_at_45 : decode prog_13_method_55_code 45 = .ok (.iconst 0, 1) := by decide +kernel
theorem d_RM_at_46 : decode prog_13_method_55_code 46 = .ok (.aload_n 0, 1) := by decide +kernel
theorem d_RM_at_47 : decode prog_13_method_55_code 47 = .ok (.getfield 35, 3) := by decide +kernel
theorem d_RM_at_50 : decode prog_13_method_55_code 50 = .ok (.iconst 1, 1) := by decide +kernel
theorem d_RM_at_51 : decode prog_13_method_55_code 51 = .ok (.iaload, 1) := by decide +kernel
theorem d_RM_at_52 : decode prog_13_method_55_code 52 = .ok (.iconst 1, 1) := by decide +kernel
theorem d_RM_at_53 : decode prog_13_method_55_code 53 = .ok (.isub, 1) := by decide +kernel
theorem d_RM_at_54 : decode prog_13_method_55_code 54 = .ok (.invokestatic 93, 3) := by decide +kernel
theorem d_RM_at_57 : decode prog_13_method_55_code 57 = .ok (.ifCond .ne 7, 3) := by decide +kernel
theorem d_RM_at_60 : decode prog_13_method_55_code 60 = .ok (.iconst 2, 1) := by decide +kernel
theorem d_RM_at_61 : decode prog_13_method_55_code 61 = .ok (.goto 4, 3) := by decide +kernel
theorem d_RM_at_64 : decode prog_13_method_55_code 64 = .ok (.iconst 0, 1) := by decide +kernel
theorem d_RM_at_65 : decode prog_13_method_55_code 65 = .ok (.putfield 90, 3) := by decide +kernel
theorem d_RM_at_68 : decode prog_13_method_55_code 68 = .ok (.aload_n 0, 1) := by decide +kernel
theorem d_RM_at_69 : decode prog_13_method_55_code 69 = .ok (.getfield 90, 3) := by decide +kernel
theorem d_RM_at_72 : decode prog_13_method_55_code 72 = .ok (.ifCond .le 5, 3) := by decide +kernel
theorem d_RM_at_75 : decode prog_13_method_55_code 75 = .ok (.iconst 0, 1) := by decide +kernel
theorem d_RM_at_76 : decode prog_13_method_55_code 76 = .ok (.ireturn, 1) := by decide +kernel
theorem d_RM_at_77 : decode prog_13_method_55_code 77 = .ok (.aload_n 0, 1) := by decide +kernel
theorem d_RM_at_78 : decode prog_13_method_55_code 78 = .ok (.getfield 38, 3) := by decide +kernel
theorem d_RM_at_81 : decode prog_13_method_55_code 81 = .ok (.sipush 144, 3) := by decide +kernel
theorem d_RM_at_84 : decode prog_13_method_55_code 84 = .ok (.iload_n 1, 1) := by decide +kernel
theorem d_RM_at_85 : decode prog_13_method_55_code 85 = .ok (.imul, 1) := by decide +kernel
theorem d_RM_at_86 : decode prog_13_method_55_code 86 = .ok (.bipush 12, 2) := by decide +kernel
theorem d_RM_at_88 : decode prog_13_method_55_code 88 = .ok (.iload_n 3, 1) := by decide +kernel
theorem d_RM_at_89 : decode prog_13_method_55_code 89 = .ok (.imul, 1) := by decide +kernel
theorem d_RM_at_90 : decode prog_13_method_55_code 90 = .ok (.iadd, 1) := by decide +kernel
theorem d_RM_at_91 : decode prog_13_method_55_code 91 = .ok (.iload_n 2, 1) := by decide +kernel
theorem d_RM_at_92 : decode prog_13_method_55_code 92 = .ok (.iadd, 1) := by decide +kernel
theorem d_RM_at_93 : decode prog_13_method_55_code 93 = .ok (.iaload, 1) := by decide +kernel
theorem d_RM_at_94 : decode prog_13_method_55_code 94 = .ok (.istore 5, 2) := by decide +kernel
theorem d_RM_at_96 : decode prog_13_method_55_code 96 = .ok (.iload 4, 2) := by decide +kernel
theorem d_RM_at_98 : decode prog_13_method_55_code 98 = .ok (.ifCond .eq 28, 3) := by decide +kernel
theorem d_RM_at_101 : decode prog_13_method_55_code 101 = .ok (.aload_n 0, 1) := by decide +kernel
theorem d_RM_at_102 : decode prog_13_method_55_code 102 = .ok (.getfield 41, 3) := by decide +kernel
theorem d_RM_at_105 : decode prog_13_method_55_code 105 = .ok (.iload_n 1, 1) := by decide +kernel
theorem d_RM_at_106 : decode prog_13_method_55_code 106 = .ok (.baload, 1) := by decide +kernel
theorem d_RM_at_107 : decode prog_13_method_55_code 107 = .ok (.ifCond .eq 19, 3) := by decide +kernel
theorem d_RM_at_110 : decode prog_13_method_55_code 110 = .ok (.aload_n 0, 1) := by decide +kernel
theorem d_RM_at_111 : decode prog_13_method_55_code 111 = .ok (.getfield 44, 3) := by decide +kernel
theorem d_RM_at_114 : decode prog_13_method_55_code 114 = .ok (.sipush 256, 3) := by decide +kernel
theorem d_RM_at_117 : decode prog_13_method_55_code 117 = .ok (.iload_n 1, 1) := by decide +kernel
theorem d_RM_at_118 : decode prog_13_method_55_code 118 = .ok (.imul, 1) := by decide +kernel
theorem d_RM_at_119 : decode prog_13_method_55_code 119 = .ok (.iload 5, 2) := by decide +kernel
theorem d_RM_at_121 : decode prog_13_method_55_code 121 = .ok (.iadd, 1) := by decide +kernel
theorem d_RM_at_122 : decode prog_13_method_55_code 122 = .ok (.iaload, 1) := by decide +kernel
theorem d_RM_at_123 : decode prog_13_method_55_code 123 = .ok (.goto 5, 3) := by decide +kernel
theorem d_RM_at_126 : decode prog_13_method_55_code 126 = .ok (.iload 5, 2) := by decide +kernel
theorem d_RM_at_128 : decode prog_13_method_55_code 128 = .ok (.ireturn, 1) := by decide +kernel
def f_RM_at (k0 : Nat) (x1 : Int32) (x2 : Int32) (x3 : Int32) (x4 : Int32) (σ : Mem) : Option (Int32 × Mem) :=
  lt (fun (y76 : Int32) => 
  lt (mput σ k0 1 y76) fun σ79 =>
  if (σ79 k0 1) ≤ 0 then
  if inb ((((144 : Int32) * x1) + ((12 : Int32) * x3)) + x2) (wln (wtg k0 22)) = true then
  lt (σ79 (wtg k0 22) ((((144 : Int32) * x1) + ((12 : Int32) * x3)) + x2).toNatClampNeg) fun v82 =>
  if x4 = 0 then
  some (v82, σ79)
  else
  if inb x1 (wln (wtg k0 23)) = true then
  if (σ79 (wtg k0 23) x1.toNatClampNeg) = 0 then
  some (v82, σ79)
  else
  if inb (((256 : Int32) * x1) + v82) (wln (wtg k0 24)) = true then
  some ((σ79 (wtg k0 24) (((256 : Int32) * x1) + v82).toNatClampNeg), σ79)
  else none
  else none
  else none
  else
  some ((0 : Int32), σ79)) fun K77 =>
  if (σ k0 20) = 0 then
  K77 (1 : Int32)
  else
  if inb (3 : Int32) (wln (wtg k0 21)) = true then
  lt (
  K77 (2 : Int32)) fun K100 =>
  if (f_RM_isIn x1 (0 : Int32) ((σ (wtg k0 21) (3 : Int32).toNatClampNeg) - (1 : Int32)) σ) = 0 then
  K100
  else
  if inb (0 : Int32) (wln (wtg k0 21)) = true then
  if (f_RM_isIn x2 (0 : Int32) ((σ (wtg k0 21) (0 : Int32).toNatClampNeg) - (1 : Int32)) σ) = 0 then
  K100
  else
  if inb (1 : Int32) (wln (wtg k0 21)) = true then
  if (f_RM_isIn x3 (0 : Int32) ((σ (wtg k0 21) (1 : Int32).toNatClampNeg) - (1 : Int32)) σ) = 0 then
  K100
  else
  K77 (0 : Int32)
  else none
  else none
  else none
set_option maxHeartbeats 4000000 in
set_option maxRecDepth 100000 in
theorem w_RM_at {F : Fx} (C : Ctx F prog_13_method_55_code 6 "LineFramesModel" (some .int) 1 22) {k0 : Nat} (h0k : Is k0 11) (x1 : Int32) (x2 : Int32) (x3 : Int32) (x4 : Int32) (σ : Mem) : J F 6 (cvO cvIM) (f_RM_at k0 x1 x2 x3 x4 σ) σ 0 [(0, .ref (fad F k0)), (1, .int x1), (2, .int x2), (3, .int x3), (4, .int x4)] [] := by
  unfold f_RM_at
  refine j_aload_n C d_RM_at_0 0 rfl ?_
  refine j_aload_n C d_RM_at_1 0 rfl ?_
  refine j_getI C h0k fl_RM_330 rfl d_RM_at_2 ?_
  refine j_join1 65 (fun _ => [(0, .ref (fad F k0)), (1, .int x1), (2, .int x2), (3, .int x3), (4, .int x4)]) (fun y76 => [.int y76, .ref (fad F k0)]) (fun y76 => ?_) (fun K77 H78 => ?_)
  · refine j_put C h0k fl_RM_90 fw_11_1 rfl rfl rfl d_RM_at_65 (fun σ79 => ?_)
    refine j_aload_n C d_RM_at_68 0 rfl ?_
    refine j_getI C h0k fl_RM_90 rfl d_RM_at_69 ?_
    refine j_if_le (tgt := 77) C d_RM_at_72 (by decide) (fun c80 => ?_) (fun c80 => ?_)
    · refine j_aload_n C d_RM_at_77 0 rfl ?_
      refine j_getR C h0k fl_RM_38 rfl d_RM_at_78 ?_
      refine j_sipush (v := (144 : Int32)) C d_RM_at_81 (by decide) ?_
      refine j_iload_n C d_RM_at_84 1 rfl ?_
      refine j_imul C d_RM_at_85 ?_
      refine j_bipush (v := (12 : Int32)) C d_RM_at_86 (by decide) ?_
      refine j_iload_n C d_RM_at_88 3 rfl ?_
      refine j_imul C d_RM_at_89 ?_
      refine j_iadd C d_RM_at_90 ?_
      refine j_iload_n C d_RM_at_91 2 rfl ?_
      refine j_iadd C d_RM_at_92 ?_
      refine j_need rfl (fun g81 => ?_)
      refine j_iald C (tg_11_22 _ h0k) (inb_in g81) d_RM_at_93 ?_
      refine j_nm (fun v82 v82_e => ?_)
      refine j_istore (lv9 := [(0, .ref (fad F k0)), (1, .int x1), (2, .int x2), (3, .int x3), (4, .int x4), (5, .int v82)]) C d_RM_at_94 rfl rfl (by decide) ?_
      refine j_iload C d_RM_at_96 4 rfl ?_
      refine j_if_eq (tgt := 126) C d_RM_at_98 (by decide) (fun c87 => ?_) (fun c87 => ?_)
      · refine j_iload C d_RM_at_126 5 rfl ?_
        exact j_ireti C (fun ρ h => leaf_eq h) d_RM_at_128
      · refine j_aload_n C d_RM_at_101 0 rfl ?_
        refine j_getR C h0k fl_RM_41 rfl d_RM_at_102 ?_
        refine j_iload_n C d_RM_at_105 1 rfl ?_
        refine j_need rfl (fun g88 => ?_)
        refine j_zald C (tg_11_23 _ h0k) (inb_in g88) d_RM_at_106 ?_
        refine j_if_eq (tgt := 126) C d_RM_at_107 (by decide) (fun c91 => ?_) (fun c91 => ?_)
        · refine j_iload C d_RM_at_126 5 rfl ?_
          exact j_ireti C (fun ρ h => leaf_eq h) d_RM_at_128
        · refine j_aload_n C d_RM_at_110 0 rfl ?_
          refine j_getR C h0k fl_RM_44 rfl d_RM_at_111 ?_
          refine j_sipush (v := (256 : Int32)) C d_RM_at_114 (by decide) ?_
          refine j_iload_n C d_RM_at_117 1 rfl ?_
          refine j_imul C d_RM_at_118 ?_
          refine j_iload C d_RM_at_119 5 rfl ?_
          refine j_iadd C d_RM_at_121 ?_
          refine j_need rfl (fun g92 => ?_)
          refine j_iald C (tg_11_24 _ h0k) (inb_in g92) d_RM_at_122 ?_
          refine j_goto (tgt := 128) C d_RM_at_123 (by decide) ?_
          exact j_ireti C (fun ρ h => leaf_eq h) d_RM_at_128
    · refine j_iconst (v := (0 : Int32)) C d_RM_at_75 (by decide) ?_
      exact j_ireti C (fun ρ h => leaf_eq h) d_RM_at_76
  · refine j_if_ne (tgt := 12) C d_RM_at_5 (by decide) (fun c93 => ?_) (fun c93 => ?_)
    · refine j_iload_n C d_RM_at_12 1 rfl ?_
      refine j_iconst (v := (0 : Int32)) C d_RM_at_13 (by decide) ?_
      refine j_aload_n C d_RM_at_14 0 rfl ?_
      refine j_getR C h0k fl_RM_35 rfl d_RM_at_15 ?_
      refine j_iconst (v := (3 : Int32)) C d_RM_at_18 (by decide) ?_
      refine j_need rfl (fun g94 => ?_)
      refine j_iald C (tg_11_21 _ h0k) (inb_in g94) d_RM_at_19 ?_
      refine j_iconst (v := (1 : Int32)) C d_RM_at_20 (by decide) ?_
      refine j_isub C d_RM_at_21 ?_
      refine j_callSi C ms_RM_93 [.int x1, .int (0 : Int32), .int ((σ (wtg k0 21) (3 : Int32).toNatClampNeg) - (1 : Int32))] [.ref (fad F k0)] (c_RM_isIn x1 (0 : Int32) ((σ (wtg k0 21) (3 : Int32).toNatClampNeg) - (1 : Int32)) σ) rfl rfl (by decide) (Nat.le_of_ble_eq_true rfl) d_RM_at_22 ?_
      refine j_join0 60 ([(0, .ref (fad F k0)), (1, .int x1), (2, .int x2), (3, .int x3), (4, .int x4)]) ([.ref (fad F k0)]) (?_) (fun K100 H101 => ?_)
      · refine j_iconst (v := (2 : Int32)) C d_RM_at_60 (by decide) ?_
        refine j_goto (tgt := 65) C d_RM_at_61 (by decide) ?_
        exact H78 (2 : Int32)
      · refine j_if_eq (tgt := 60) C d_RM_at_25 (by decide) (fun c102 => ?_) (fun c102 => ?_)
        · exact H101
        · refine j_iload_n C d_RM_at_28 2 rfl ?_
          refine j_iconst (v := (0 : Int32)) C d_RM_at_29 (by decide) ?_
          refine j_aload_n C d_RM_at_30 0 rfl ?_
          refine j_getR C h0k fl_RM_35 rfl d_RM_at_31 ?_
          refine j_iconst (v := (0 : Int32)) C d_RM_at_34 (by decide) ?_
          refine j_need rfl (fun g103 => ?_)
          refine j_iald C (tg_11_21 _ h0k) (inb_in g103) d_RM_at_35 ?_
          refine j_iconst (v := (1 : Int32)) C d_RM_at_36 (by decide) ?_
          refine j_isub C d_RM_at_37 ?_
          refine j_callSi C ms_RM_93 [.int x2, .int (0 : Int32), .int ((σ (wtg k0 21) (0 : Int32).toNatClampNeg) - (1 : Int32))] [.ref (fad F k0)] (c_RM_isIn x2 (0 : Int32) ((σ (wtg k0 21) (0 : Int32).toNatClampNeg) - (1 : Int32)) σ) rfl rfl (by decide) (Nat.le_of_ble_eq_true rfl) d_RM_at_38 ?_
          refine j_if_eq (tgt := 60) C d_RM_at_41 (by decide) (fun c104 => ?_) (fun c104 => ?_)
          · exact H101
          · refine j_iload_n C d_RM_at_44 3 rfl ?_
            refine j_iconst (v := (0 : Int32)) C d_RM_at_45 (by decide) ?_
            refine j_aload_n C d_RM_at_46 0 rfl ?_
            refine j_getR C h0k fl_RM_35 rfl d_RM_at_47 ?_
            refine j_iconst (v := (1 : Int32)) C d_RM_at_50 (by decide) ?_
            refine j_need rfl (fun g105 => ?_)
            refine j_iald C (tg_11_21 _ h0k) (inb_in g105) d_RM_at_51 ?_
            refine j_iconst (v := (1 : Int32)) C d_RM_at_52 (by decide) ?_
            refine j_isub C d_RM_at_53 ?_
            refine j_callSi C ms_RM_93 [.int x3, .int (0 : Int32), .int ((σ (wtg k0 21) (1 : Int32).toNatClampNeg) - (1 : Int32))] [.ref (fad F k0)] (c_RM_isIn x3 (0 : Int32) ((σ (wtg k0 21) (1 : Int32).toNatClampNeg) - (1 : Int32)) σ) rfl rfl (by decide) (Nat.le_of_ble_eq_true rfl) d_RM_at_54 ?_
            refine j_if_ne (tgt := 64) C d_RM_at_57 (by decide) (fun c106 => ?_) (fun c106 => ?_)
            · refine j_iconst (v := (0 : Int32)) C d_RM_at_64 (by decide) ?_
              exact H78 (0 : Int32)
            · exact H101
    · refine j_iconst (v := (1 : Int32)) C d_RM_at_8 (by decide) ?_
      refine j_goto (tgt := 65) C d_RM_at_9 (by decide) ?_
      exact H78 (1 : Int32)
theorem c_RM_at {l : Launch} {D : va_G} {G : GC} {ad : Nat → Nat} {k0 : Nat} (h0k : Is k0 11) (x1 : Int32) (x2 : Int32) (x3 : Int32) (x4 : Int32) (σ : Mem) {q : Int32 × Mem} (hq : f_RM_at k0 x1 x2 x3 x4 σ = some q) : Ctr l D G ad ⟨"LineFramesModel", "at", "(IIIZ)I"⟩ prog_13_method_55_code 6 (some .int) 1 22 [.ref (ad k0), .int x1, .int x2, .int x3, .int x4] σ (.inl (some (.int q.1)), q.2) := ctr_J (cv := (cvO cvIM)) (E := f_RM_at k0 x1 x2 x3 x4 σ) (by decide +kernel) (Nat.le_of_ble_eq_true rfl) (by rw [hq]; rfl) (fun F h C => by subst h; exact w_RM_at C h0k x1 x2 x3 x4 σ)
/-! LineFramesModel found (I)I -/
theorem d_RM_found_0 : decode prog_13_method_56_code 0 = .ok (.aload_n 0, 1) := by decide +kernel
theorem d_RM_found_1 : decode prog_13_method_56_code 1 = .ok (.aload_n 0, 1) := by decide +kernel
theorem d_RM_found_2 : decode prog_13_method_56_code 2 = .ok (.getfield 330, 3) := by decide +kernel
theorem d_RM_found_5 : decode prog_13_method_56_code 5 = .ok (.ifCond .eq 7, 3) := by decide +kernel
theorem d_RM_found_8 : decode prog_13_method_56_code 8 = .ok (.iconst 0, 1) := by decide +kernel
theorem d_RM_found_9 : decode prog_13_method_56_code 9 = .ok (.goto 4, 3) := by decide +kernel
theorem d_RM_found_12 : decode prog_13_method_56_code 12 = .ok (.iconst 1, 1) := by decide +kernel
theorem d_RM_found_13 : decode prog_13_method_56_code 13 = .ok (.putfield 90, 3) := by decide +kernel
theorem d_RM_found_16 : decode prog_13_method_56_code 16 = .ok (.aload_n 0, 1) := by decide +kernel
theorem d_RM_found_17 : decode prog_13_method_56_code 17 = .ok (.getfield 90, 3) := by decide +kernel
theorem d_RM_found_20 : decode prog_13_method_56_code 20 = .ok (.ifCond .le 7, 3) := by decide +kernel
theorem d_RM_found_23 : decode prog_13_method_56_code 23 = .ok (.iconst 0, 1) := by decide +kernel
theorem d_RM_found_24 : decode prog_13_method_56_code 24 = .ok (.goto 23, 3) := by decide +kernel
theorem d_RM_found_27 : decode prog_13_method_56_code 27 = .ok (.iload_n 1, 1) := by decide +kernel
theorem d_RM_found_28 : decode prog_13_method_56_code 28 = .ok (.iconst 0, 1) := by decide +kernel
theorem d_RM_found_29 : decode prog_13_method_56_code 29 = .ok (.bipush 9, 2) := by decide +kernel
theorem d_RM_found_31 : decode prog_13_method_56_code 31 = .ok (.invokestatic 93, 3) := by decide +kernel
theorem d_RM_found_34 : decode prog_13_method_56_code 34 = .ok (.ifCond .eq 12, 3) := by decide +kernel
theorem d_RM_found_37 : decode prog_13_method_56_code 37 = .ok (.aload_n 0, 1) := by decide +kernel
theorem d_RM_found_38 : decode prog_13_method_56_code 38 = .ok (.getfield 35, 3) := by decide +kernel
theorem d_RM_found_41 : decode prog_13_method_56_code 41 = .ok (.iload_n 1, 1) := by decide +kernel
theorem d_RM_found_42 : decode prog_13_method_56_code 42 = .ok (.iaload, 1) := by decide +kernel
theorem d_RM_found_43 : decode prog_13_method_56_code 43 = .ok (.goto 4, 3) := by decide +kernel
theorem d_RM_found_46 : decode prog_13_method_56_code 46 = .ok (.iconst (-1), 1) := by decide +kernel
theorem d_RM_found_47 : decode prog_13_method_56_code 47 = .ok (.ireturn, 1) := by decide +kernel
def f_RM_found (k0 : Nat) (x1 : Int32) (σ : Mem) : Option (Int32 × Mem) :=
  lt (mput σ k0 1 (if (σ k0 20) = 0 then (1 : Int32) else (0 : Int32))) fun σ3 =>
  if (σ3 k0 1) ≤ 0 then
  if (f_RM_isIn x1 (0 : Int32) (9 : Int32) σ3) = 0 then
  some ((-1 : Int32), σ3)
  else
  if inb x1 (wln (wtg k0 21)) = true then
  some ((σ3 (wtg k0 21) x1.toNatClampNeg), σ3)
  else none
  else
  some ((0 : Int32), σ3)
set_option maxHeartbeats 4000000 in
set_option maxRecDepth 100000 in
theorem w_RM_found {F : Fx} (C : Ctx F prog_13_method_56_code 2 "LineFramesModel" (some .int) 1 22) {k0 : Nat} (h0k : Is k0 11) (x1 : Int32) (σ : Mem) : J F 2 (cvO cvIM) (f_RM_found k0 x1 σ) σ 0 [(0, .ref (fad F k0)), (1, .int x1)] [] := by
  unfold f_RM_found
  refine j_aload_n C d_RM_found_0 0 rfl ?_
  refine j_aload_n C d_RM_found_1 0 rfl ?_
  refine j_getI C h0k fl_RM_330 rfl d_RM_found_2 ?_
  refine d_if_eq (a := (1 : Int32)) (b := (0 : Int32)) (jp := 13) (tgt := 12) C d_RM_found_5 (by decide) (fun c1 k2 => ?_) (fun c1 k2 => ?_) ?_
  · refine j_iconst (v := (1 : Int32)) C d_RM_found_12 (by decide) ?_
    exact k2
  · refine j_iconst (v := (0 : Int32)) C d_RM_found_8 (by decide) ?_
    refine j_goto (tgt := 13) C d_RM_found_9 (by decide) ?_
    exact k2
  refine j_put C h0k fl_RM_90 fw_11_1 rfl rfl rfl d_RM_found_13 (fun σ3 => ?_)
  refine j_aload_n C d_RM_found_16 0 rfl ?_
  refine j_getI C h0k fl_RM_90 rfl d_RM_found_17 ?_
  refine j_if_le (tgt := 27) C d_RM_found_20 (by decide) (fun c8 => ?_) (fun c8 => ?_)
  · refine j_iload_n C d_RM_found_27 1 rfl ?_
    refine j_iconst (v := (0 : Int32)) C d_RM_found_28 (by decide) ?_
    refine j_bipush (v := (9 : Int32)) C d_RM_found_29 (by decide) ?_
    refine j_callSi C ms_RM_93 [.int x1, .int (0 : Int32), .int (9 : Int32)] [] (c_RM_isIn x1 (0 : Int32) (9 : Int32) σ3) rfl rfl (by decide) (Nat.le_of_ble_eq_true rfl) d_RM_found_31 ?_
    refine j_if_eq (tgt := 46) C d_RM_found_34 (by decide) (fun c11 => ?_) (fun c11 => ?_)
    · refine j_iconst (v := (-1 : Int32)) C d_RM_found_46 (by decide) ?_
      exact j_ireti C (fun ρ h => leaf_eq h) d_RM_found_47
    · refine j_aload_n C d_RM_found_37 0 rfl ?_
      refine j_getR C h0k fl_RM_35 rfl d_RM_found_38 ?_
      refine j_iload_n C d_RM_found_41 1 rfl ?_
      refine j_need rfl (fun g12 => ?_)
      refine j_iald C (tg_11_21 _ h0k) (inb_in g12) d_RM_found_42 ?_
      refine j_goto (tgt := 47) C d_RM_found_43 (by decide) ?_
      exact j_ireti C (fun ρ h => leaf_eq h) d_RM_found_47
  · refine j_iconst (v := (0 : Int32)) C d_RM_found_23 (by decide) ?_
    refine j_goto (tgt := 47) C d_RM_found_24 (by decide) ?_
    exact j_ireti C (fun ρ h => leaf_eq h) d_RM_found_47
theorem c_RM_found {l : Launch} {D : va_G} {G : GC} {ad : Nat → Nat} {k0 : Nat} (h0k : Is k0 11) (x1 : Int32) (σ : Mem) {q : Int32 × Mem} (hq : f_RM_found k0 x1 σ = some q) : Ctr l D G ad ⟨"LineFramesModel", "found", "(I)I"⟩ prog_13_method_56_code 2 (some .int) 1 22 [.ref (ad k0), .int x1] σ (.inl (some (.int q.1)), q.2) := ctr_J (cv := (cvO cvIM)) (E := f_RM_found k0 x1 σ) (by decide +kernel) (Nat.le_of_ble_eq_true rfl) (by rw [hq]; rfl) (fun F h C => by subst h; exact w_RM_found C h0k x1 σ)
/-! LineFramesModel noteAt (II)I -/
theorem d_RM_noteAt_0 : decode prog_13_method_57_code 0 = .ok (.aload_n 0, 1) := by decide +kernel
theorem d_RM_noteAt_1 : decode prog_13_method_57_code 1 = .ok (.aload_n 0, 1) := by decide +kernel
theorem d_RM_noteAt_2 : decode prog_13_method_57_code 2 = .ok (.getfield 330, 3) := by decide +kernel
theorem d_RM_noteAt_5 : decode prog_13_method_57_code 5 = .ok (.ifCond .ne 7, 3) := by decide +kernel
theorem d_RM_noteAt_8 : decode prog_13_method_57_code 8 = .ok (.iconst 1, 1) := by decide +kernel
theorem d_RM_noteAt_9 : decode prog_13_method_57_code 9 = .ok (.goto 41, 3) := by decide +kernel
theorem d_RM_noteAt_12 : decode prog_13_method_57_code 12 = .ok (.iload_n 1, 1) := by decide +kernel
theorem d_RM_noteAt_13 : decode prog_13_method_57_code 13 = .ok (.iconst 0, 1) := by decide +kernel
theorem d_RM_noteAt_14 : decode prog_13_method_57_code 14 = .ok (.aload_n 0, 1) := by decide +kernel
theorem d_RM_noteAt_15 : decode prog_13_method_57_code 15 = .ok (.getfield 35, 3) := by decide +kernel
theorem d_RM_noteAt_18 : decode prog_13_method_57_code 18 = .ok (.bipush 9, 2) := by decide +kernel
theorem d_RM_noteAt_20 : decode prog_13_method_57_code 20 = .ok (.iaload, 1) := by decide +kernel
theorem d_RM_noteAt_21 : decode prog_13_method_57_code 21 = .ok (.iconst 1, 1) := by decide +kernel
theorem d_RM_noteAt_22 : decode prog_13_method_57_code 22 = .ok (.isub, 1) := by decide +kernel
theorem d_RM_noteAt_23 : decode prog_13_method_57_code 23 = .ok (.invokestatic 93, 3) := by decide +kernel
theorem d_RM_noteAt_26 : decode prog_13_method_57_code 26 = .ok (.ifCond .eq 19, 3) := by decide +kernel
theorem d_RM_noteAt_29 : decode prog_13_method_57_code 29 = .ok (.iload_n 2, 1) := by decide +kernel
theorem d_RM_noteAt_30 : decode prog_13_method_57_code 30 = .ok (.iconst (-1), 1) := by decide +kernel
theorem d_RM_noteAt_31 : decode prog_13_method_57_code 31 = .ok (.aload_n 0, 1) := by decide +kernel
theorem d_RM_noteAt_32 : decode prog_13_method_57_code 32 = .ok (.getfield 50, 3) := by decide +kernel
theorem d_RM_noteAt_35 : decode prog_13_method_57_code 35 = .ok (.iload_n 1, 1) := by decide +kernel
theorem d_RM_noteAt_36 : decode prog_13_method_57_code 36 = .ok (.iaload, 1) := by decide +kernel
theorem d_RM_noteAt_37 : decode prog_13_method_57_code 37 = .ok (.iconst 1, 1) := by decide +kernel
theorem d_RM_noteAt_38 : decode prog_13_method_57_code 38 = .ok (.isub, 1) := by decide +kernel
theorem d_RM_noteAt_39 : decode prog_13_method_57_code 39 = .ok (.invokestatic 93, 3) := by decide +kernel
theorem d_RM_noteAt_42 : decode prog_13_method_57_code 42 = .ok (.ifCond .ne 7, 3) := by decide +kernel
theorem d_RM_noteAt_45 : decode prog_13_method_57_code 45 = .ok (.iconst 2, 1) := by decide +kernel
theorem d_RM_noteAt_46 : decode prog_13_method_57_code 46 = .ok (.goto 4, 3) := by decide +kernel
theorem d_RM_noteAt_49 : decode prog_13_method_57_code 49 = .ok (.iconst 0, 1) := by decide +kernel
theorem d_RM_noteAt_50 : decode prog_13_method_57_code 50 = .ok (.putfield 90, 3) := by decide +kernel
theorem d_RM_noteAt_53 : decode prog_13_method_57_code 53 = .ok (.aload_n 0, 1) := by decide +kernel
theorem d_RM_noteAt_54 : decode prog_13_method_57_code 54 = .ok (.getfield 90, 3) := by decide +kernel
theorem d_RM_noteAt_57 : decode prog_13_method_57_code 57 = .ok (.ifCond .le 7, 3) := by decide +kernel
theorem d_RM_noteAt_60 : decode prog_13_method_57_code 60 = .ok (.iconst 0, 1) := by decide +kernel
theorem d_RM_noteAt_61 : decode prog_13_method_57_code 61 = .ok (.goto 27, 3) := by decide +kernel
theorem d_RM_noteAt_64 : decode prog_13_method_57_code 64 = .ok (.iload_n 2, 1) := by decide +kernel
theorem d_RM_noteAt_65 : decode prog_13_method_57_code 65 = .ok (.ifCond .ge 12, 3) := by decide +kernel
theorem d_RM_noteAt_68 : decode prog_13_method_57_code 68 = .ok (.aload_n 0, 1) := by decide +kernel
theorem d_RM_noteAt_69 : decode prog_13_method_57_code 69 = .ok (.getfield 47, 3) := by decide +kernel
theorem d_RM_noteAt_72 : decode prog_13_method_57_code 72 = .ok (.iload_n 1, 1) := by decide +kernel
theorem d_RM_noteAt_73 : decode prog_13_method_57_code 73 = .ok (.iaload, 1) := by decide +kernel
theorem d_RM_noteAt_74 : decode prog_13_method_57_code 74 = .ok (.goto 14, 3) := by decide +kernel
theorem d_RM_noteAt_77 : decode prog_13_method_57_code 77 = .ok (.aload_n 0, 1) := by decide +kernel
theorem d_RM_noteAt_78 : decode prog_13_method_57_code 78 = .ok (.getfield 53, 3) := by decide +kernel
theorem d_RM_noteAt_81 : decode prog_13_method_57_code 81 = .ok (.bipush 30, 2) := by decide +kernel
theorem d_RM_noteAt_83 : decode prog_13_method_57_code 83 = .ok (.iload_n 1, 1) := by decide +kernel
theorem d_RM_noteAt_84 : decode prog_13_method_57_code 84 = .ok (.imul, 1) := by decide +kernel
theorem d_RM_noteAt_85 : decode prog_13_method_57_code 85 = .ok (.iload_n 2, 1) := by decide +kernel
theorem d_RM_noteAt_86 : decode prog_13_method_57_code 86 = .ok (.iadd, 1) := by decide +kernel
theorem d_RM_noteAt_87 : decode prog_13_method_57_code 87 = .ok (.iaload, 1) := by decide +kernel
theorem d_RM_noteAt_88 : decode prog_13_method_57_code 88 = .ok (.ireturn, 1) := by decide +kernel
def f_RM_noteAt (k0 : Nat) (x1 : Int32) (x2 : Int32) (σ : Mem) : Option (Int32 × Mem) :=
  lt (fun (y46 : Int32) => 
  lt (mput σ k0 1 y46) fun σ49 =>
  if (σ49 k0 1) ≤ 0 then
  if 0 ≤ x2 then
  if inb (((30 : Int32) * x1) + x2) (wln (wtg k0 27)) = true then
  some ((σ49 (wtg k0 27) (((30 : Int32) * x1) + x2).toNatClampNeg), σ49)
  else none
  else
  if inb x1 (wln (wtg k0 25)) = true then
  some ((σ49 (wtg k0 25) x1.toNatClampNeg), σ49)
  else none
  else
  some ((0 : Int32), σ49)) fun K47 =>
  if (σ k0 20) = 0 then
  K47 (1 : Int32)
  else
  if inb (9 : Int32) (wln (wtg k0 21)) = true then
  lt (
  K47 (2 : Int32)) fun K67 =>
  if (f_RM_isIn x1 (0 : Int32) ((σ (wtg k0 21) (9 : Int32).toNatClampNeg) - (1 : Int32)) σ) = 0 then
  K67
  else
  if inb x1 (wln (wtg k0 26)) = true then
  if (f_RM_isIn x2 (-1 : Int32) ((σ (wtg k0 26) x1.toNatClampNeg) - (1 : Int32)) σ) = 0 then
  K67
  else
  K47 (0 : Int32)
  else none
  else none
set_option maxHeartbeats 4000000 in
set_option maxRecDepth 100000 in
theorem w_RM_noteAt {F : Fx} (C : Ctx F prog_13_method_57_code 3 "LineFramesModel" (some .int) 1 22) {k0 : Nat} (h0k : Is k0 11) (x1 : Int32) (x2 : Int32) (σ : Mem) : J F 3 (cvO cvIM) (f_RM_noteAt k0 x1 x2 σ) σ 0 [(0, .ref (fad F k0)), (1, .int x1), (2, .int x2)] [] := by
  unfold f_RM_noteAt
  refine j_aload_n C d_RM_noteAt_0 0 rfl ?_
  refine j_aload_n C d_RM_noteAt_1 0 rfl ?_
  refine j_getI C h0k fl_RM_330 rfl d_RM_noteAt_2 ?_
  refine j_join1 50 (fun _ => [(0, .ref (fad F k0)), (1, .int x1), (2, .int x2)]) (fun y46 => [.int y46, .ref (fad F k0)]) (fun y46 => ?_) (fun K47 H48 => ?_)
  · refine j_put C h0k fl_RM_90 fw_11_1 rfl rfl rfl d_RM_noteAt_50 (fun σ49 => ?_)
    refine j_aload_n C d_RM_noteAt_53 0 rfl ?_
    refine j_getI C h0k fl_RM_90 rfl d_RM_noteAt_54 ?_
    refine j_if_le (tgt := 64) C d_RM_noteAt_57 (by decide) (fun c54 => ?_) (fun c54 => ?_)
    · refine j_iload_n C d_RM_noteAt_64 2 rfl ?_
      refine j_if_ge (tgt := 77) C d_RM_noteAt_65 (by decide) (fun c57 => ?_) (fun c57 => ?_)
      · refine j_aload_n C d_RM_noteAt_77 0 rfl ?_
        refine j_getR C h0k fl_RM_53 rfl d_RM_noteAt_78 ?_
        refine j_bipush (v := (30 : Int32)) C d_RM_noteAt_81 (by decide) ?_
        refine j_iload_n C d_RM_noteAt_83 1 rfl ?_
        refine j_imul C d_RM_noteAt_84 ?_
        refine j_iload_n C d_RM_noteAt_85 2 rfl ?_
        refine j_iadd C d_RM_noteAt_86 ?_
        refine j_need rfl (fun g58 => ?_)
        refine j_iald C (tg_11_27 _ h0k) (inb_in g58) d_RM_noteAt_87 ?_
        exact j_ireti C (fun ρ h => leaf_eq h) d_RM_noteAt_88
      · refine j_aload_n C d_RM_noteAt_68 0 rfl ?_
        refine j_getR C h0k fl_RM_47 rfl d_RM_noteAt_69 ?_
        refine j_iload_n C d_RM_noteAt_72 1 rfl ?_
        refine j_need rfl (fun g59 => ?_)
        refine j_iald C (tg_11_25 _ h0k) (inb_in g59) d_RM_noteAt_73 ?_
        refine j_goto (tgt := 88) C d_RM_noteAt_74 (by decide) ?_
        exact j_ireti C (fun ρ h => leaf_eq h) d_RM_noteAt_88
    · refine j_iconst (v := (0 : Int32)) C d_RM_noteAt_60 (by decide) ?_
      refine j_goto (tgt := 88) C d_RM_noteAt_61 (by decide) ?_
      exact j_ireti C (fun ρ h => leaf_eq h) d_RM_noteAt_88
  · refine j_if_ne (tgt := 12) C d_RM_noteAt_5 (by decide) (fun c60 => ?_) (fun c60 => ?_)
    · refine j_iload_n C d_RM_noteAt_12 1 rfl ?_
      refine j_iconst (v := (0 : Int32)) C d_RM_noteAt_13 (by decide) ?_
      refine j_aload_n C d_RM_noteAt_14 0 rfl ?_
      refine j_getR C h0k fl_RM_35 rfl d_RM_noteAt_15 ?_
      refine j_bipush (v := (9 : Int32)) C d_RM_noteAt_18 (by decide) ?_
      refine j_need rfl (fun g61 => ?_)
      refine j_iald C (tg_11_21 _ h0k) (inb_in g61) d_RM_noteAt_20 ?_
      refine j_iconst (v := (1 : Int32)) C d_RM_noteAt_21 (by decide) ?_
      refine j_isub C d_RM_noteAt_22 ?_
      refine j_callSi C ms_RM_93 [.int x1, .int (0 : Int32), .int ((σ (wtg k0 21) (9 : Int32).toNatClampNeg) - (1 : Int32))] [.ref (fad F k0)] (c_RM_isIn x1 (0 : Int32) ((σ (wtg k0 21) (9 : Int32).toNatClampNeg) - (1 : Int32)) σ) rfl rfl (by decide) (Nat.le_of_ble_eq_true rfl) d_RM_noteAt_23 ?_
      refine j_join0 45 ([(0, .ref (fad F k0)), (1, .int x1), (2, .int x2)]) ([.ref (fad F k0)]) (?_) (fun K67 H68 => ?_)
      · refine j_iconst (v := (2 : Int32)) C d_RM_noteAt_45 (by decide) ?_
        refine j_goto (tgt := 50) C d_RM_noteAt_46 (by decide) ?_
        exact H48 (2 : Int32)
      · refine j_if_eq (tgt := 45) C d_RM_noteAt_26 (by decide) (fun c69 => ?_) (fun c69 => ?_)
        · exact H68
        · refine j_iload_n C d_RM_noteAt_29 2 rfl ?_
          refine j_iconst (v := (-1 : Int32)) C d_RM_noteAt_30 (by decide) ?_
          refine j_aload_n C d_RM_noteAt_31 0 rfl ?_
          refine j_getR C h0k fl_RM_50 rfl d_RM_noteAt_32 ?_
          refine j_iload_n C d_RM_noteAt_35 1 rfl ?_
          refine j_need rfl (fun g70 => ?_)
          refine j_iald C (tg_11_26 _ h0k) (inb_in g70) d_RM_noteAt_36 ?_
          refine j_iconst (v := (1 : Int32)) C d_RM_noteAt_37 (by decide) ?_
          refine j_isub C d_RM_noteAt_38 ?_
          refine j_callSi C ms_RM_93 [.int x2, .int (-1 : Int32), .int ((σ (wtg k0 26) x1.toNatClampNeg) - (1 : Int32))] [.ref (fad F k0)] (c_RM_isIn x2 (-1 : Int32) ((σ (wtg k0 26) x1.toNatClampNeg) - (1 : Int32)) σ) rfl rfl (by decide) (Nat.le_of_ble_eq_true rfl) d_RM_noteAt_39 ?_
          refine j_if_ne (tgt := 49) C d_RM_noteAt_42 (by decide) (fun c71 => ?_) (fun c71 => ?_)
          · refine j_iconst (v := (0 : Int32)) C d_RM_noteAt_49 (by decide) ?_
            exact H48 (0 : Int32)
          · exact H68
    · refine j_iconst (v := (1 : Int32)) C d_RM_noteAt_8 (by decide) ?_
      refine j_goto (tgt := 50) C d_RM_noteAt_9 (by decide) ?_
      exact H48 (1 : Int32)
theorem c_RM_noteAt {l : Launch} {D : va_G} {G : GC} {ad : Nat → Nat} {k0 : Nat} (h0k : Is k0 11) (x1 : Int32) (x2 : Int32) (σ : Mem) {q : Int32 × Mem} (hq : f_RM_noteAt k0 x1 x2 σ = some q) : Ctr l D G ad ⟨"LineFramesModel", "noteAt", "(II)I"⟩ prog_13_method_57_code 3 (some .int) 1 22 [.ref (ad k0), .int x1, .int x2] σ (.inl (some (.int q.1)), q.2) := ctr_J (cv := (cvO cvIM)) (E := f_RM_noteAt k0 x1 x2 σ) (by decide +kernel) (Nat.le_of_ble_eq_true rfl) (by rw [hq]; rfl) (fun F h C => by subst h; exact w_RM_noteAt C h0k x1 x2 σ)
/-! LineFramesModel told (I)I -/
theorem d_RM_told_0 : decode prog_13_method_58_code 0 = .ok (.aload_n 0, 1) := by decide +kernel
theorem d_RM_told_1 : decode prog_13_method_58_code 1 = .ok (.iconst 0, 1) := by decide +kernel
theorem d_RM_told_2 : decode prog_13_method_58_code 2 = .ok (.putfield 90, 3) := by decide +kernel
theorem d_RM_told_5 : decode prog_13_method_58_code 5 = .ok (.iload_n 1, 1) := by decide +kernel
theorem d_RM_told_6 : decode prog_13_method_58_code 6 = .ok (.tableswitch 97 0 7 #[46, 51, 56, 72, 77, 82, 87, 92], 46) := by decide +kernel
theorem d_RM_told_52 : decode prog_13_method_58_code 52 = .ok (.aload_n 0, 1) := by decide +kernel
theorem d_RM_told_53 : decode prog_13_method_58_code 53 = .ok (.getfield 86, 3) := by decide +kernel
theorem d_RM_told_56 : decode prog_13_method_58_code 56 = .ok (.ireturn, 1) := by decide +kernel
theorem d_RM_told_57 : decode prog_13_method_58_code 57 = .ok (.aload_n 0, 1) := by decide +kernel
theorem d_RM_told_58 : decode prog_13_method_58_code 58 = .ok (.getfield 110, 3) := by decide +kernel
theorem d_RM_told_61 : decode prog_13_method_58_code 61 = .ok (.ireturn, 1) := by decide +kernel
theorem d_RM_told_62 : decode prog_13_method_58_code 62 = .ok (.aload_n 0, 1) := by decide +kernel
theorem d_RM_told_63 : decode prog_13_method_58_code 63 = .ok (.getfield 110, 3) := by decide +kernel
theorem d_RM_told_66 : decode prog_13_method_58_code 66 = .ok (.ifCond .ne 7, 3) := by decide +kernel
theorem d_RM_told_69 : decode prog_13_method_58_code 69 = .ok (.iconst 0, 1) := by decide +kernel
theorem d_RM_told_70 : decode prog_13_method_58_code 70 = .ok (.goto 7, 3) := by decide +kernel
theorem d_RM_told_73 : decode prog_13_method_58_code 73 = .ok (.aload_n 0, 1) := by decide +kernel
theorem d_RM_told_74 : decode prog_13_method_58_code 74 = .ok (.getfield 122, 3) := by decide +kernel
theorem d_RM_told_77 : decode prog_13_method_58_code 77 = .ok (.ireturn, 1) := by decide +kernel
theorem d_RM_told_78 : decode prog_13_method_58_code 78 = .ok (.aload_n 0, 1) := by decide +kernel
theorem d_RM_told_79 : decode prog_13_method_58_code 79 = .ok (.getfield 146, 3) := by decide +kernel
theorem d_RM_told_82 : decode prog_13_method_58_code 82 = .ok (.ireturn, 1) := by decide +kernel
theorem d_RM_told_83 : decode prog_13_method_58_code 83 = .ok (.aload_n 0, 1) := by decide +kernel
theorem d_RM_told_84 : decode prog_13_method_58_code 84 = .ok (.getfield 207, 3) := by decide +kernel
theorem d_RM_told_87 : decode prog_13_method_58_code 87 = .ok (.ireturn, 1) := by decide +kernel
theorem d_RM_told_88 : decode prog_13_method_58_code 88 = .ok (.aload_n 0, 1) := by decide +kernel
theorem d_RM_told_89 : decode prog_13_method_58_code 89 = .ok (.getfield 210, 3) := by decide +kernel
theorem d_RM_told_92 : decode prog_13_method_58_code 92 = .ok (.ireturn, 1) := by decide +kernel
theorem d_RM_told_93 : decode prog_13_method_58_code 93 = .ok (.aload_n 0, 1) := by decide +kernel
theorem d_RM_told_94 : decode prog_13_method_58_code 94 = .ok (.getfield 281, 3) := by decide +kernel
theorem d_RM_told_97 : decode prog_13_method_58_code 97 = .ok (.ireturn, 1) := by decide +kernel
theorem d_RM_told_98 : decode prog_13_method_58_code 98 = .ok (.aload_n 0, 1) := by decide +kernel
theorem d_RM_told_99 : decode prog_13_method_58_code 99 = .ok (.getfield 296, 3) := by decide +kernel
theorem d_RM_told_102 : decode prog_13_method_58_code 102 = .ok (.ireturn, 1) := by decide +kernel
theorem d_RM_told_103 : decode prog_13_method_58_code 103 = .ok (.iconst (-1), 1) := by decide +kernel
theorem d_RM_told_104 : decode prog_13_method_58_code 104 = .ok (.ireturn, 1) := by decide +kernel
def f_RM_told (k0 : Nat) (x1 : Int32) (σ : Mem) : Int32 × Mem :=
  lt (mput σ k0 1 (0 : Int32)) fun σ1 =>
  if x1 = 0 then
  ((σ1 k0 0), σ1)
  else
  if x1 = 1 then
  ((σ1 k0 5), σ1)
  else
  if x1 = 2 then
  ((if (σ1 k0 5) = 0 then (0 : Int32) else (σ1 k0 12)), σ1)
  else
  if x1 = 3 then
  ((σ1 k0 17), σ1)
  else
  if x1 = 4 then
  ((σ1 k0 19), σ1)
  else
  if x1 = 5 then
  ((σ1 k0 28), σ1)
  else
  if x1 = 6 then
  ((σ1 k0 30), σ1)
  else
  if x1 = 7 then
  ((σ1 k0 31), σ1)
  else
  ((-1 : Int32), σ1)
set_option maxHeartbeats 4000000 in
set_option maxRecDepth 100000 in
theorem w_RM_told {F : Fx} (C : Ctx F prog_13_method_58_code 2 "LineFramesModel" (some .int) 0 0) {k0 : Nat} (h0k : Is k0 11) (x1 : Int32) (σ : Mem) : J F 2 cvIM (f_RM_told k0 x1 σ) σ 0 [(0, .ref (fad F k0)), (1, .int x1)] [] := by
  unfold f_RM_told
  refine j_aload_n C d_RM_told_0 0 rfl ?_
  refine j_iconst (v := (0 : Int32)) C d_RM_told_1 (by decide) ?_
  refine j_put C h0k fl_RM_90 fw_11_1 rfl rfl rfl d_RM_told_2 (fun σ1 => ?_)
  refine j_iload_n C d_RM_told_5 1 rfl ?_
  refine j_case (fun c2 => ?_) (fun c2 => ?_)
  · refine j_tin (x := x1) (k := 0) (off := 46) (tgt := 52) C d_RM_told_6 c2 (by decide) (by decide) (by decide) (by decide) ?_
    refine j_aload_n C d_RM_told_52 0 rfl ?_
    refine j_getI C h0k fl_RM_86 rfl d_RM_told_53 ?_
    exact j_ireti C (fun ρ h => leaf_eq h) d_RM_told_56
  · refine j_case (fun c3 => ?_) (fun c3 => ?_)
    · refine j_tin (x := x1) (k := 1) (off := 51) (tgt := 57) C d_RM_told_6 c3 (by decide) (by decide) (by decide) (by decide) ?_
      refine j_aload_n C d_RM_told_57 0 rfl ?_
      refine j_getI C h0k fl_RM_110 rfl d_RM_told_58 ?_
      exact j_ireti C (fun ρ h => leaf_eq h) d_RM_told_61
    · refine j_case (fun c4 => ?_) (fun c4 => ?_)
      · refine j_tin (x := x1) (k := 2) (off := 56) (tgt := 62) C d_RM_told_6 c4 (by decide) (by decide) (by decide) (by decide) ?_
        refine j_aload_n C d_RM_told_62 0 rfl ?_
        refine j_getI C h0k fl_RM_110 rfl d_RM_told_63 ?_
        refine d_if_ne (a := (0 : Int32)) (b := (σ1 k0 12)) (jp := 77) (tgt := 73) C d_RM_told_66 (by decide) (fun c10 k11 => ?_) (fun c10 k11 => ?_) ?_
        · refine j_aload_n C d_RM_told_73 0 rfl ?_
          refine j_getI C h0k fl_RM_122 rfl d_RM_told_74 ?_
          exact k11
        · refine j_iconst (v := (0 : Int32)) C d_RM_told_69 (by decide) ?_
          refine j_goto (tgt := 77) C d_RM_told_70 (by decide) ?_
          exact k11
        exact j_ireti C (fun ρ h => leaf_eq h) d_RM_told_77
      · refine j_case (fun c5 => ?_) (fun c5 => ?_)
        · refine j_tin (x := x1) (k := 3) (off := 72) (tgt := 78) C d_RM_told_6 c5 (by decide) (by decide) (by decide) (by decide) ?_
          refine j_aload_n C d_RM_told_78 0 rfl ?_
          refine j_getI C h0k fl_RM_146 rfl d_RM_told_79 ?_
          exact j_ireti C (fun ρ h => leaf_eq h) d_RM_told_82
        · refine j_case (fun c6 => ?_) (fun c6 => ?_)
          · refine j_tin (x := x1) (k := 4) (off := 77) (tgt := 83) C d_RM_told_6 c6 (by decide) (by decide) (by decide) (by decide) ?_
            refine j_aload_n C d_RM_told_83 0 rfl ?_
            refine j_getI C h0k fl_RM_207 rfl d_RM_told_84 ?_
            exact j_ireti C (fun ρ h => leaf_eq h) d_RM_told_87
          · refine j_case (fun c7 => ?_) (fun c7 => ?_)
            · refine j_tin (x := x1) (k := 5) (off := 82) (tgt := 88) C d_RM_told_6 c7 (by decide) (by decide) (by decide) (by decide) ?_
              refine j_aload_n C d_RM_told_88 0 rfl ?_
              refine j_getI C h0k fl_RM_210 rfl d_RM_told_89 ?_
              exact j_ireti C (fun ρ h => leaf_eq h) d_RM_told_92
            · refine j_case (fun c8 => ?_) (fun c8 => ?_)
              · refine j_tin (x := x1) (k := 6) (off := 87) (tgt := 93) C d_RM_told_6 c8 (by decide) (by decide) (by decide) (by decide) ?_
                refine j_aload_n C d_RM_told_93 0 rfl ?_
                refine j_getI C h0k fl_RM_281 rfl d_RM_told_94 ?_
                exact j_ireti C (fun ρ h => leaf_eq h) d_RM_told_97
              · refine j_case (fun c9 => ?_) (fun c9 => ?_)
                · refine j_tin (x := x1) (k := 7) (off := 92) (tgt := 98) C d_RM_told_6 c9 (by decide) (by decide) (by decide) (by decide) ?_
                  refine j_aload_n C d_RM_told_98 0 rfl ?_
                  refine j_getI C h0k fl_RM_296 rfl d_RM_told_99 ?_
                  exact j_ireti C (fun ρ h => leaf_eq h) d_RM_told_102
                · refine j_tout (tgt := 103) C d_RM_told_6 (by decide) (sw_out8 c2 c3 c4 c5 c6 c7 c8 c9) ?_
                  refine j_iconst (v := (-1 : Int32)) C d_RM_told_103 (by decide) ?_
                  exact j_ireti C (fun ρ h => leaf_eq h) d_RM_told_104
theorem c_RM_told {l : Launch} {D : va_G} {G : GC} {ad : Nat → Nat} {k0 : Nat} (h0k : Is k0 11) (x1 : Int32) (σ : Mem) : Ctr l D G ad ⟨"LineFramesModel", "told", "(I)I"⟩ prog_13_method_58_code 2 (some .int) 0 0 [.ref (ad k0), .int x1] σ (.inl (some (.int (f_RM_told k0 x1 σ).1)), (f_RM_told k0 x1 σ).2) := ctr_J (cv := cvIM) (E := f_RM_told k0 x1 σ) (by decide +kernel) (Nat.le_of_ble_eq_true rfl) rfl (fun F h C => by subst h; exact w_RM_told C h0k x1 σ)
