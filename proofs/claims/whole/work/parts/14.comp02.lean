/-! LineFrames$StreamReader faultOfPart (IIII)I -/
theorem d_SR_faultOfPart_0 : decode prog_10_method_20_code 0 = .ok (.iload_n 3, 1) := by decide +kernel
theorem d_SR_faultOfPart_1 : decode prog_10_method_20_code 1 = .ok (.iconst 1, 1) := by decide +kernel
theorem d_SR_faultOfPart_2 : decode prog_10_method_20_code 2 = .ok (.isub, 1) := by decide +kernel
theorem d_SR_faultOfPart_3 : decode prog_10_method_20_code 3 = .ok (.istore 5, 2) := by decide +kernel
theorem d_SR_faultOfPart_5 : decode prog_10_method_20_code 5 = .ok (.aload_n 0, 1) := by decide +kernel
theorem d_SR_faultOfPart_6 : decode prog_10_method_20_code 6 = .ok (.getfield 12, 3) := by decide +kernel
theorem d_SR_faultOfPart_9 : decode prog_10_method_20_code 9 = .ok (.iload 5, 2) := by decide +kernel
theorem d_SR_faultOfPart_11 : decode prog_10_method_20_code 11 = .ok (.invokevirtual 207, 3) := by decide +kernel
theorem d_SR_faultOfPart_14 : decode prog_10_method_20_code 14 = .ok (.ifCond .ne 6, 3) := by decide +kernel
theorem d_SR_faultOfPart_17 : decode prog_10_method_20_code 17 = .ok (.bipush 6, 2) := by decide +kernel
theorem d_SR_faultOfPart_19 : decode prog_10_method_20_code 19 = .ok (.ireturn, 1) := by decide +kernel
theorem d_SR_faultOfPart_20 : decode prog_10_method_20_code 20 = .ok (.iload_n 2, 1) := by decide +kernel
theorem d_SR_faultOfPart_21 : decode prog_10_method_20_code 21 = .ok (.iconst 1, 1) := by decide +kernel
theorem d_SR_faultOfPart_22 : decode prog_10_method_20_code 22 = .ok (.if_icmp .le 11, 3) := by decide +kernel
theorem d_SR_faultOfPart_25 : decode prog_10_method_20_code 25 = .ok (.iload 5, 2) := by decide +kernel
theorem d_SR_faultOfPart_27 : decode prog_10_method_20_code 27 = .ok (.iload_n 1, 1) := by decide +kernel
theorem d_SR_faultOfPart_28 : decode prog_10_method_20_code 28 = .ok (.if_icmp .eq 5, 3) := by decide +kernel
theorem d_SR_faultOfPart_31 : decode prog_10_method_20_code 31 = .ok (.iconst 4, 1) := by decide +kernel
theorem d_SR_faultOfPart_32 : decode prog_10_method_20_code 32 = .ok (.ireturn, 1) := by decide +kernel
theorem d_SR_faultOfPart_33 : decode prog_10_method_20_code 33 = .ok (.aload_n 0, 1) := by decide +kernel
theorem d_SR_faultOfPart_34 : decode prog_10_method_20_code 34 = .ok (.getfield 43, 3) := by decide +kernel
theorem d_SR_faultOfPart_37 : decode prog_10_method_20_code 37 = .ok (.iload 5, 2) := by decide +kernel
theorem d_SR_faultOfPart_39 : decode prog_10_method_20_code 39 = .ok (.invokevirtual 142, 3) := by decide +kernel
theorem d_SR_faultOfPart_42 : decode prog_10_method_20_code 42 = .ok (.ifCond .eq 5, 3) := by decide +kernel
theorem d_SR_faultOfPart_45 : decode prog_10_method_20_code 45 = .ok (.iconst 5, 1) := by decide +kernel
theorem d_SR_faultOfPart_46 : decode prog_10_method_20_code 46 = .ok (.ireturn, 1) := by decide +kernel
theorem d_SR_faultOfPart_47 : decode prog_10_method_20_code 47 = .ok (.iload 4, 2) := by decide +kernel
theorem d_SR_faultOfPart_49 : decode prog_10_method_20_code 49 = .ok (.iload_n 3, 1) := by decide +kernel
theorem d_SR_faultOfPart_50 : decode prog_10_method_20_code 50 = .ok (.if_icmp .ne 19, 3) := by decide +kernel
theorem d_SR_faultOfPart_53 : decode prog_10_method_20_code 53 = .ok (.aload_n 0, 1) := by decide +kernel
theorem d_SR_faultOfPart_54 : decode prog_10_method_20_code 54 = .ok (.getfield 12, 3) := by decide +kernel
theorem d_SR_faultOfPart_57 : decode prog_10_method_20_code 57 = .ok (.iload 5, 2) := by decide +kernel
theorem d_SR_faultOfPart_59 : decode prog_10_method_20_code 59 = .ok (.invokevirtual 210, 3) := by decide +kernel
theorem d_SR_faultOfPart_62 : decode prog_10_method_20_code 62 = .ok (.ifCond .eq 7, 3) := by decide +kernel
theorem d_SR_faultOfPart_65 : decode prog_10_method_20_code 65 = .ok (.iconst 1, 1) := by decide +kernel
theorem d_SR_faultOfPart_66 : decode prog_10_method_20_code 66 = .ok (.goto 4, 3) := by decide +kernel
theorem d_SR_faultOfPart_69 : decode prog_10_method_20_code 69 = .ok (.iconst 0, 1) := by decide +kernel
theorem d_SR_faultOfPart_70 : decode prog_10_method_20_code 70 = .ok (.istore 6, 2) := by decide +kernel
theorem d_SR_faultOfPart_72 : decode prog_10_method_20_code 72 = .ok (.iload 4, 2) := by decide +kernel
theorem d_SR_faultOfPart_74 : decode prog_10_method_20_code 74 = .ok (.ifCond .eq 8, 3) := by decide +kernel
theorem d_SR_faultOfPart_77 : decode prog_10_method_20_code 77 = .ok (.iload 6, 2) := by decide +kernel
theorem d_SR_faultOfPart_79 : decode prog_10_method_20_code 79 = .ok (.ifCond .eq 7, 3) := by decide +kernel
theorem d_SR_faultOfPart_82 : decode prog_10_method_20_code 82 = .ok (.iconst 0, 1) := by decide +kernel
theorem d_SR_faultOfPart_83 : decode prog_10_method_20_code 83 = .ok (.goto 4, 3) := by decide +kernel
theorem d_SR_faultOfPart_86 : decode prog_10_method_20_code 86 = .ok (.iconst 4, 1) := by decide +kernel
theorem d_SR_faultOfPart_87 : decode prog_10_method_20_code 87 = .ok (.ireturn, 1) := by decide +kernel
def f_SR_faultOfPart (k0 : Nat) (x1 : Int32) (x2 : Int32) (x3 : Int32) (x4 : Int32) (σ : Mem) : Int32 :=
  if (f_PI_hasComponent (wtg k0 1) (x3 - (1 : Int32)) σ) = 0 then
  (6 : Int32)
  else
  lt (
  if (f_RO_get (wtg k0 5) (x3 - (1 : Int32)) σ) = 0 then
  lt (if x4 = x3 then (if (f_PI_hasTable (wtg k0 1) (x3 - (1 : Int32)) σ) = 0 then (0 : Int32) else (1 : Int32)) else (0 : Int32)) fun v152 =>
  (if x4 = 0 then (0 : Int32) else (if v152 = 0 then (4 : Int32) else (0 : Int32)))
  else
  (5 : Int32)) fun K143 =>
  if x2 ≤ (1 : Int32) then
  K143
  else
  if (x3 - (1 : Int32)) = x1 then
  K143
  else
  (4 : Int32)
set_option maxHeartbeats 4000000 in
set_option maxRecDepth 100000 in
theorem w_SR_faultOfPart {F : Fx} (C : Ctx F prog_10_method_20_code 7 "LineFrames$StreamReader" (some .int) 2 42) {k0 : Nat} (h0k : Is k0 9) (x1 : Int32) (x2 : Int32) (x3 : Int32) (x4 : Int32) (σ : Mem) : J F 7 (cvI σ) (f_SR_faultOfPart k0 x1 x2 x3 x4 σ) σ 0 [(0, .ref (fad F k0)), (1, .int x1), (2, .int x2), (3, .int x3), (4, .int x4)] [] := by
  unfold f_SR_faultOfPart
  refine j_iload_n C d_SR_faultOfPart_0 3 rfl ?_
  refine j_iconst (v := (1 : Int32)) C d_SR_faultOfPart_1 (by decide) ?_
  refine j_isub C d_SR_faultOfPart_2 ?_
  refine j_istore (lv9 := [(0, .ref (fad F k0)), (1, .int x1), (2, .int x2), (3, .int x3), (4, .int x4), (5, .int (x3 - (1 : Int32)))]) C d_SR_faultOfPart_3 rfl rfl (by decide) ?_
  refine j_aload_n C d_SR_faultOfPart_5 0 rfl ?_
  refine j_getR C h0k fl_SR_12 rfl d_SR_faultOfPart_6 ?_
  refine j_iload C d_SR_faultOfPart_9 5 rfl ?_
  refine j_callVi C mv_SR_207 [.int (x3 - (1 : Int32))] [] (tg_9_1 _ h0k) (c_PI_hasComponent (tg_9_1 _ h0k) (x3 - (1 : Int32)) σ) rfl rfl (by decide) (Nat.le_of_ble_eq_true rfl) d_SR_faultOfPart_11 ?_
  refine j_if_ne (tgt := 20) C d_SR_faultOfPart_14 (by decide) (fun c1 => ?_) (fun c1 => ?_)
  · refine j_iload_n C d_SR_faultOfPart_20 2 rfl ?_
    refine j_iconst (v := (1 : Int32)) C d_SR_faultOfPart_21 (by decide) ?_
    refine j_join0 33 ([(0, .ref (fad F k0)), (1, .int x1), (2, .int x2), (3, .int x3), (4, .int x4), (5, .int (x3 - (1 : Int32)))]) ([]) (?_) (fun K143 H144 => ?_)
    · refine j_aload_n C d_SR_faultOfPart_33 0 rfl ?_
      refine j_getR C h0k fl_SR_43 rfl d_SR_faultOfPart_34 ?_
      refine j_iload C d_SR_faultOfPart_37 5 rfl ?_
      refine j_callVi C mv_SR_142 [.int (x3 - (1 : Int32))] [] (tg_9_5 _ h0k) (c_RO_get (tg_9_5 _ h0k) (x3 - (1 : Int32)) σ) rfl rfl (by decide) (Nat.le_of_ble_eq_true rfl) d_SR_faultOfPart_39 ?_
      refine j_if_eq (tgt := 47) C d_SR_faultOfPart_42 (by decide) (fun c145 => ?_) (fun c145 => ?_)
      · refine j_iload C d_SR_faultOfPart_47 4 rfl ?_
        refine j_iload_n C d_SR_faultOfPart_49 3 rfl ?_
        refine d_icmp_ne (a := (if (f_PI_hasTable (wtg k0 1) (x3 - (1 : Int32)) σ) = 0 then (0 : Int32) else (1 : Int32))) (b := (0 : Int32)) (jp := 70) (tgt := 69) C d_SR_faultOfPart_50 (by decide) (fun c148 k149 => ?_) (fun c148 k149 => ?_) ?_
        · refine j_iconst (v := (0 : Int32)) C d_SR_faultOfPart_69 (by decide) ?_
          exact k149
        · refine j_aload_n C d_SR_faultOfPart_53 0 rfl ?_
          refine j_getR C h0k fl_SR_12 rfl d_SR_faultOfPart_54 ?_
          refine j_iload C d_SR_faultOfPart_57 5 rfl ?_
          refine j_callVi C mv_SR_210 [.int (x3 - (1 : Int32))] [] (tg_9_1 _ h0k) (c_PI_hasTable (tg_9_1 _ h0k) (x3 - (1 : Int32)) σ) rfl rfl (by decide) (Nat.le_of_ble_eq_true rfl) d_SR_faultOfPart_59 ?_
          refine d_if_eq (a := (0 : Int32)) (b := (1 : Int32)) (jp := 70) (tgt := 69) C d_SR_faultOfPart_62 (by decide) (fun c150 k151 => ?_) (fun c150 k151 => ?_) ?_
          · refine j_iconst (v := (0 : Int32)) C d_SR_faultOfPart_69 (by decide) ?_
            exact k151
          · refine j_iconst (v := (1 : Int32)) C d_SR_faultOfPart_65 (by decide) ?_
            refine j_goto (tgt := 70) C d_SR_faultOfPart_66 (by decide) ?_
            exact k151
          exact k149
        refine j_nm (fun v152 v152_e => ?_)
        refine j_istore (lv9 := [(0, .ref (fad F k0)), (1, .int x1), (2, .int x2), (3, .int x3), (4, .int x4), (5, .int (x3 - (1 : Int32))), (6, .int v152)]) C d_SR_faultOfPart_70 rfl rfl (by decide) ?_
        refine j_iload C d_SR_faultOfPart_72 4 rfl ?_
        refine d_if_eq (a := (0 : Int32)) (b := (if v152 = 0 then (4 : Int32) else (0 : Int32))) (jp := 87) (tgt := 82) C d_SR_faultOfPart_74 (by decide) (fun c159 k160 => ?_) (fun c159 k160 => ?_) ?_
        · refine j_iconst (v := (0 : Int32)) C d_SR_faultOfPart_82 (by decide) ?_
          refine j_goto (tgt := 87) C d_SR_faultOfPart_83 (by decide) ?_
          exact k160
        · refine j_iload C d_SR_faultOfPart_77 6 rfl ?_
          refine d_if_eq (a := (4 : Int32)) (b := (0 : Int32)) (jp := 87) (tgt := 86) C d_SR_faultOfPart_79 (by decide) (fun c161 k162 => ?_) (fun c161 k162 => ?_) ?_
          · refine j_iconst (v := (4 : Int32)) C d_SR_faultOfPart_86 (by decide) ?_
            exact k162
          · refine j_iconst (v := (0 : Int32)) C d_SR_faultOfPart_82 (by decide) ?_
            refine j_goto (tgt := 87) C d_SR_faultOfPart_83 (by decide) ?_
            exact k162
          exact k160
        exact j_ireti C (fun ρ h => leaf_eq h) d_SR_faultOfPart_87
      · refine j_iconst (v := (5 : Int32)) C d_SR_faultOfPart_45 (by decide) ?_
        exact j_ireti C (fun ρ h => leaf_eq h) d_SR_faultOfPart_46
    · refine j_icmp_le (tgt := 33) C d_SR_faultOfPart_22 (by decide) (fun c163 => ?_) (fun c163 => ?_)
      · exact H144
      · refine j_iload C d_SR_faultOfPart_25 5 rfl ?_
        refine j_iload_n C d_SR_faultOfPart_27 1 rfl ?_
        refine j_icmp_eq (tgt := 33) C d_SR_faultOfPart_28 (by decide) (fun c164 => ?_) (fun c164 => ?_)
        · exact H144
        · refine j_iconst (v := (4 : Int32)) C d_SR_faultOfPart_31 (by decide) ?_
          exact j_ireti C (fun ρ h => leaf_eq h) d_SR_faultOfPart_32
  · refine j_bipush (v := (6 : Int32)) C d_SR_faultOfPart_17 (by decide) ?_
    exact j_ireti C (fun ρ h => leaf_eq h) d_SR_faultOfPart_19
theorem c_SR_faultOfPart {l : Launch} {D : va_G} {G : GC} {ad : Nat → Nat} {k0 : Nat} (h0k : Is k0 9) (x1 : Int32) (x2 : Int32) (x3 : Int32) (x4 : Int32) (σ : Mem) : Ctr l D G ad ⟨"LineFrames$StreamReader", "faultOfPart", "(IIII)I"⟩ prog_10_method_20_code 7 (some .int) 2 42 [.ref (ad k0), .int x1, .int x2, .int x3, .int x4] σ (.inl (some (.int (f_SR_faultOfPart k0 x1 x2 x3 x4 σ))), σ) := ctr_J (cv := (cvI σ)) (E := f_SR_faultOfPart k0 x1 x2 x3 x4 σ) (by decide +kernel) (Nat.le_of_ble_eq_true rfl) rfl (fun F h C => by subst h; exact w_SR_faultOfPart C h0k x1 x2 x3 x4 σ)
/-! LineFrames$StreamReader takeScan (II)I -/
theorem d_SR_takeScan_0 : decode prog_10_method_19_code 0 = .ok (.aload_n 0, 1) := by decide +kernel
theorem d_SR_takeScan_1 : decode prog_10_method_19_code 1 = .ok (.getfield 72, 3) := by decide +kernel
theorem d_SR_takeScan_4 : decode prog_10_method_19_code 4 = .ok (.iload_n 1, 1) := by decide +kernel
theorem d_SR_takeScan_5 : decode prog_10_method_19_code 5 = .ok (.iconst 4, 1) := by decide +kernel
theorem d_SR_takeScan_6 : decode prog_10_method_19_code 6 = .ok (.iadd, 1) := by decide +kernel
theorem d_SR_takeScan_7 : decode prog_10_method_19_code 7 = .ok (.invokevirtual 123, 3) := by decide +kernel
theorem d_SR_takeScan_10 : decode prog_10_method_19_code 10 = .ok (.istore_n 3, 1) := by decide +kernel
theorem d_SR_takeScan_11 : decode prog_10_method_19_code 11 = .ok (.iload_n 2, 1) := by decide +kernel
theorem d_SR_takeScan_12 : decode prog_10_method_19_code 12 = .ok (.iconst 3, 1) := by decide +kernel
theorem d_SR_takeScan_13 : decode prog_10_method_19_code 13 = .ok (.if_icmp .lt 13, 3) := by decide +kernel
theorem d_SR_takeScan_16 : decode prog_10_method_19_code 16 = .ok (.iload_n 2, 1) := by decide +kernel
theorem d_SR_takeScan_17 : decode prog_10_method_19_code 17 = .ok (.bipush 6, 2) := by decide +kernel
theorem d_SR_takeScan_19 : decode prog_10_method_19_code 19 = .ok (.iconst 2, 1) := by decide +kernel
theorem d_SR_takeScan_20 : decode prog_10_method_19_code 20 = .ok (.iload_n 3, 1) := by decide +kernel
theorem d_SR_takeScan_21 : decode prog_10_method_19_code 21 = .ok (.imul, 1) := by decide +kernel
theorem d_SR_takeScan_22 : decode prog_10_method_19_code 22 = .ok (.iadd, 1) := by decide +kernel
theorem d_SR_takeScan_23 : decode prog_10_method_19_code 23 = .ok (.if_icmp .eq 5, 3) := by decide +kernel
theorem d_SR_takeScan_26 : decode prog_10_method_19_code 26 = .ok (.iconst 3, 1) := by decide +kernel
theorem d_SR_takeScan_27 : decode prog_10_method_19_code 27 = .ok (.ireturn, 1) := by decide +kernel
theorem d_SR_takeScan_28 : decode prog_10_method_19_code 28 = .ok (.iload_n 3, 1) := by decide +kernel
theorem d_SR_takeScan_29 : decode prog_10_method_19_code 29 = .ok (.iconst 1, 1) := by decide +kernel
theorem d_SR_takeScan_30 : decode prog_10_method_19_code 30 = .ok (.if_icmp .eq 16, 3) := by decide +kernel
theorem d_SR_takeScan_33 : decode prog_10_method_19_code 33 = .ok (.iload_n 3, 1) := by decide +kernel
theorem d_SR_takeScan_34 : decode prog_10_method_19_code 34 = .ok (.aload_n 0, 1) := by decide +kernel
theorem d_SR_takeScan_35 : decode prog_10_method_19_code 35 = .ok (.getfield 12, 3) := by decide +kernel
theorem d_SR_takeScan_38 : decode prog_10_method_19_code 38 = .ok (.getfield 136, 3) := by decide +kernel
theorem d_SR_takeScan_41 : decode prog_10_method_19_code 41 = .ok (.if_icmp .eq 5, 3) := by decide +kernel
theorem d_SR_takeScan_44 : decode prog_10_method_19_code 44 = .ok (.iconst 4, 1) := by decide +kernel
theorem d_SR_takeScan_45 : decode prog_10_method_19_code 45 = .ok (.ireturn, 1) := by decide +kernel
theorem d_SR_takeScan_46 : decode prog_10_method_19_code 46 = .ok (.iconst 0, 1) := by decide +kernel
theorem d_SR_takeScan_47 : decode prog_10_method_19_code 47 = .ok (.istore 4, 2) := by decide +kernel
theorem d_SR_takeScan_49 : decode prog_10_method_19_code 49 = .ok (.iload 4, 2) := by decide +kernel
theorem d_SR_takeScan_51 : decode prog_10_method_19_code 51 = .ok (.iload_n 3, 1) := by decide +kernel
theorem d_SR_takeScan_52 : decode prog_10_method_19_code 52 = .ok (.if_icmp .ge 56, 3) := by decide +kernel
theorem d_SR_takeScan_55 : decode prog_10_method_19_code 55 = .ok (.iload_n 1, 1) := by decide +kernel
theorem d_SR_takeScan_56 : decode prog_10_method_19_code 56 = .ok (.iconst 5, 1) := by decide +kernel
theorem d_SR_takeScan_57 : decode prog_10_method_19_code 57 = .ok (.iadd, 1) := by decide +kernel
theorem d_SR_takeScan_58 : decode prog_10_method_19_code 58 = .ok (.iconst 2, 1) := by decide +kernel
theorem d_SR_takeScan_59 : decode prog_10_method_19_code 59 = .ok (.iload 4, 2) := by decide +kernel
theorem d_SR_takeScan_61 : decode prog_10_method_19_code 61 = .ok (.imul, 1) := by decide +kernel
theorem d_SR_takeScan_62 : decode prog_10_method_19_code 62 = .ok (.iadd, 1) := by decide +kernel
theorem d_SR_takeScan_63 : decode prog_10_method_19_code 63 = .ok (.istore 5, 2) := by decide +kernel
theorem d_SR_takeScan_65 : decode prog_10_method_19_code 65 = .ok (.aload_n 0, 1) := by decide +kernel
theorem d_SR_takeScan_66 : decode prog_10_method_19_code 66 = .ok (.iload 4, 2) := by decide +kernel
theorem d_SR_takeScan_68 : decode prog_10_method_19_code 68 = .ok (.iload_n 3, 1) := by decide +kernel
theorem d_SR_takeScan_69 : decode prog_10_method_19_code 69 = .ok (.aload_n 0, 1) := by decide +kernel
theorem d_SR_takeScan_70 : decode prog_10_method_19_code 70 = .ok (.getfield 72, 3) := by decide +kernel
theorem d_SR_takeScan_73 : decode prog_10_method_19_code 73 = .ok (.iload 5, 2) := by decide +kernel
theorem d_SR_takeScan_75 : decode prog_10_method_19_code 75 = .ok (.invokevirtual 123, 3) := by decide +kernel
theorem d_SR_takeScan_78 : decode prog_10_method_19_code 78 = .ok (.aload_n 0, 1) := by decide +kernel
theorem d_SR_takeScan_79 : decode prog_10_method_19_code 79 = .ok (.getfield 72, 3) := by decide +kernel
theorem d_SR_takeScan_82 : decode prog_10_method_19_code 82 = .ok (.iload 5, 2) := by decide +kernel
theorem d_SR_takeScan_84 : decode prog_10_method_19_code 84 = .ok (.iconst 1, 1) := by decide +kernel
theorem d_SR_takeScan_85 : decode prog_10_method_19_code 85 = .ok (.iadd, 1) := by decide +kernel
theorem d_SR_takeScan_86 : decode prog_10_method_19_code 86 = .ok (.invokevirtual 123, 3) := by decide +kernel
theorem d_SR_takeScan_89 : decode prog_10_method_19_code 89 = .ok (.invokevirtual 220, 3) := by decide +kernel
theorem d_SR_takeScan_92 : decode prog_10_method_19_code 92 = .ok (.istore 6, 2) := by decide +kernel
theorem d_SR_takeScan_94 : decode prog_10_method_19_code 94 = .ok (.iload 6, 2) := by decide +kernel
theorem d_SR_takeScan_96 : decode prog_10_method_19_code 96 = .ok (.ifCond .eq 6, 3) := by decide +kernel
theorem d_SR_takeScan_99 : decode prog_10_method_19_code 99 = .ok (.iload 6, 2) := by decide +kernel
theorem d_SR_takeScan_101 : decode prog_10_method_19_code 101 = .ok (.ireturn, 1) := by decide +kernel
theorem d_SR_takeScan_102 : decode prog_10_method_19_code 102 = .ok (.iinc 4 1, 3) := by decide +kernel
theorem d_SR_takeScan_105 : decode prog_10_method_19_code 105 = .ok (.goto (-56), 3) := by decide +kernel
theorem d_SR_takeScan_108 : decode prog_10_method_19_code 108 = .ok (.iload_n 1, 1) := by decide +kernel
theorem d_SR_takeScan_109 : decode prog_10_method_19_code 109 = .ok (.iconst 5, 1) := by decide +kernel
theorem d_SR_takeScan_110 : decode prog_10_method_19_code 110 = .ok (.iadd, 1) := by decide +kernel
theorem d_SR_takeScan_111 : decode prog_10_method_19_code 111 = .ok (.iconst 2, 1) := by decide +kernel
theorem d_SR_takeScan_112 : decode prog_10_method_19_code 112 = .ok (.iload_n 3, 1) := by decide +kernel
theorem d_SR_takeScan_113 : decode prog_10_method_19_code 113 = .ok (.imul, 1) := by decide +kernel
theorem d_SR_takeScan_114 : decode prog_10_method_19_code 114 = .ok (.iadd, 1) := by decide +kernel
theorem d_SR_takeScan_115 : decode prog_10_method_19_code 115 = .ok (.istore 4, 2) := by decide +kernel
theorem d_SR_takeScan_117 : decode prog_10_method_19_code 117 = .ok (.aload_n 0, 1) := by decide +kernel
theorem d_SR_takeScan_118 : decode prog_10_method_19_code 118 = .ok (.getfield 72, 3) := by decide +kernel
theorem d_SR_takeScan_121 : decode prog_10_method_19_code 121 = .ok (.iload 4, 2) := by decide +kernel
theorem d_SR_takeScan_123 : decode prog_10_method_19_code 123 = .ok (.iconst 1, 1) := by decide +kernel
theorem d_SR_takeScan_124 : decode prog_10_method_19_code 124 = .ok (.iadd, 1) := by decide +kernel
theorem d_SR_takeScan_125 : decode prog_10_method_19_code 125 = .ok (.invokevirtual 123, 3) := by decide +kernel
theorem d_SR_takeScan_128 : decode prog_10_method_19_code 128 = .ok (.istore 5, 2) := by decide +kernel
theorem d_SR_takeScan_130 : decode prog_10_method_19_code 130 = .ok (.iload_n 3, 1) := by decide +kernel
theorem d_SR_takeScan_131 : decode prog_10_method_19_code 131 = .ok (.iconst 1, 1) := by decide +kernel
theorem d_SR_takeScan_132 : decode prog_10_method_19_code 132 = .ok (.if_icmp .ne 16, 3) := by decide +kernel
theorem d_SR_takeScan_135 : decode prog_10_method_19_code 135 = .ok (.iload 5, 2) := by decide +kernel
theorem d_SR_takeScan_137 : decode prog_10_method_19_code 137 = .ok (.ifCond .ne 7, 3) := by decide +kernel
theorem d_SR_takeScan_140 : decode prog_10_method_19_code 140 = .ok (.iconst 1, 1) := by decide +kernel
theorem d_SR_takeScan_141 : decode prog_10_method_19_code 141 = .ok (.goto 24, 3) := by decide +kernel
theorem d_SR_takeScan_144 : decode prog_10_method_19_code 144 = .ok (.iconst 0, 1) := by decide +kernel
theorem d_SR_takeScan_145 : decode prog_10_method_19_code 145 = .ok (.goto 20, 3) := by decide +kernel
theorem d_SR_takeScan_148 : decode prog_10_method_19_code 148 = .ok (.iload 5, 2) := by decide +kernel
theorem d_SR_takeScan_150 : decode prog_10_method_19_code 150 = .ok (.iconst 1, 1) := by decide +kernel
theorem d_SR_takeScan_151 : decode prog_10_method_19_code 151 = .ok (.if_icmp .eq 9, 3) := by decide +kernel
theorem d_SR_takeScan_154 : decode prog_10_method_19_code 154 = .ok (.iload 5, 2) := by decide +kernel
theorem d_SR_takeScan_156 : decode prog_10_method_19_code 156 = .ok (.iconst 2, 1) := by decide +kernel
theorem d_SR_takeScan_157 : decode prog_10_method_19_code 157 = .ok (.if_icmp .ne 7, 3) := by decide +kernel
theorem d_SR_takeScan_160 : decode prog_10_method_19_code 160 = .ok (.iconst 1, 1) := by decide +kernel
theorem d_SR_takeScan_161 : decode prog_10_method_19_code 161 = .ok (.goto 4, 3) := by decide +kernel
theorem d_SR_takeScan_164 : decode prog_10_method_19_code 164 = .ok (.iconst 0, 1) := by decide +kernel
theorem d_SR_takeScan_165 : decode prog_10_method_19_code 165 = .ok (.istore 6, 2) := by decide +kernel
theorem d_SR_takeScan_167 : decode prog_10_method_19_code 167 = .ok (.aload_n 0, 1) := by decide +kernel
theorem d_SR_takeScan_168 : decode prog_10_method_19_code 168 = .ok (.getfield 72, 3) := by decide +kernel
theorem d_SR_takeScan_171 : decode prog_10_method_19_code 171 = .ok (.iload 4, 2) := by decide +kernel
theorem d_SR_takeScan_173 : decode prog_10_method_19_code 173 = .ok (.invokevirtual 123, 3) := by decide +kernel
theorem d_SR_takeScan_176 : decode prog_10_method_19_code 176 = .ok (.iconst 3, 1) := by decide +kernel
theorem d_SR_takeScan_177 : decode prog_10_method_19_code 177 = .ok (.if_icmp .gt 22, 3) := by decide +kernel
theorem d_SR_takeScan_180 : decode prog_10_method_19_code 180 = .ok (.iload 6, 2) := by decide +kernel
theorem d_SR_takeScan_182 : decode prog_10_method_19_code 182 = .ok (.ifCond .eq 17, 3) := by decide +kernel
theorem d_SR_takeScan_185 : decode prog_10_method_19_code 185 = .ok (.aload_n 0, 1) := by decide +kernel
theorem d_SR_takeScan_186 : decode prog_10_method_19_code 186 = .ok (.getfield 72, 3) := by decide +kernel
theorem d_SR_takeScan_189 : decode prog_10_method_19_code 189 = .ok (.iload 4, 2) := by decide +kernel
theorem d_SR_takeScan_191 : decode prog_10_method_19_code 191 = .ok (.iconst 2, 1) := by decide +kernel
theorem d_SR_takeScan_192 : decode prog_10_method_19_code 192 = .ok (.iadd, 1) := by decide +kernel
theorem d_SR_takeScan_193 : decode prog_10_method_19_code 193 = .ok (.invokevirtual 123, 3) := by decide +kernel
theorem d_SR_takeScan_196 : decode prog_10_method_19_code 196 = .ok (.ifCond .eq 5, 3) := by decide +kernel
theorem d_SR_takeScan_199 : decode prog_10_method_19_code 199 = .ok (.iconst 4, 1) := by decide +kernel
theorem d_SR_takeScan_200 : decode prog_10_method_19_code 200 = .ok (.ireturn, 1) := by decide +kernel
theorem d_SR_takeScan_201 : decode prog_10_method_19_code 201 = .ok (.aload_n 0, 1) := by decide +kernel
theorem d_SR_takeScan_202 : decode prog_10_method_19_code 202 = .ok (.aload_n 0, 1) := by decide +kernel
theorem d_SR_takeScan_203 : decode prog_10_method_19_code 203 = .ok (.getfield 72, 3) := by decide +kernel
theorem d_SR_takeScan_206 : decode prog_10_method_19_code 206 = .ok (.iload_n 1, 1) := by decide +kernel
theorem d_SR_takeScan_207 : decode prog_10_method_19_code 207 = .ok (.iconst 5, 1) := by decide +kernel
theorem d_SR_takeScan_208 : decode prog_10_method_19_code 208 = .ok (.iadd, 1) := by decide +kernel
theorem d_SR_takeScan_209 : decode prog_10_method_19_code 209 = .ok (.invokevirtual 123, 3) := by decide +kernel
theorem d_SR_takeScan_212 : decode prog_10_method_19_code 212 = .ok (.iconst 1, 1) := by decide +kernel
theorem d_SR_takeScan_213 : decode prog_10_method_19_code 213 = .ok (.isub, 1) := by decide +kernel
theorem d_SR_takeScan_214 : decode prog_10_method_19_code 214 = .ok (.putfield 54, 3) := by decide +kernel
theorem d_SR_takeScan_217 : decode prog_10_method_19_code 217 = .ok (.aload_n 0, 1) := by decide +kernel
theorem d_SR_takeScan_218 : decode prog_10_method_19_code 218 = .ok (.iload_n 3, 1) := by decide +kernel
theorem d_SR_takeScan_219 : decode prog_10_method_19_code 219 = .ok (.putfield 57, 3) := by decide +kernel
theorem d_SR_takeScan_222 : decode prog_10_method_19_code 222 = .ok (.aload_n 0, 1) := by decide +kernel
theorem d_SR_takeScan_223 : decode prog_10_method_19_code 223 = .ok (.aload_n 0, 1) := by decide +kernel
theorem d_SR_takeScan_224 : decode prog_10_method_19_code 224 = .ok (.getfield 72, 3) := by decide +kernel
theorem d_SR_takeScan_227 : decode prog_10_method_19_code 227 = .ok (.iload 4, 2) := by decide +kernel
theorem d_SR_takeScan_229 : decode prog_10_method_19_code 229 = .ok (.invokevirtual 123, 3) := by decide +kernel
theorem d_SR_takeScan_232 : decode prog_10_method_19_code 232 = .ok (.putfield 60, 3) := by decide +kernel
theorem d_SR_takeScan_235 : decode prog_10_method_19_code 235 = .ok (.aload_n 0, 1) := by decide +kernel
theorem d_SR_takeScan_236 : decode prog_10_method_19_code 236 = .ok (.iload 5, 2) := by decide +kernel
theorem d_SR_takeScan_238 : decode prog_10_method_19_code 238 = .ok (.putfield 63, 3) := by decide +kernel
theorem d_SR_takeScan_241 : decode prog_10_method_19_code 241 = .ok (.iconst 0, 1) := by decide +kernel
theorem d_SR_takeScan_242 : decode prog_10_method_19_code 242 = .ok (.ireturn, 1) := by decide +kernel
def L_SR_takeScan_49 (r0 : Nat) (b1 : Int32) (b2 : Int32) (b3 : Int32) (σ : Mem) : Nat → Int32 →  Option ((Int32) ⊕ Int32)
  | 0, _ => none
  | n + 1, a4 =>
  if b3 ≤ a4 then
  some (.inl a4)
  else
  lt ((b1 + (5 : Int32)) + ((2 : Int32) * a4)) fun v236 =>
  lt (f_SR_faultOfPart r0 a4 b3 (f_BY_get (wtg r0 0) v236 σ) (f_BY_get (wtg r0 0) (v236 + (1 : Int32)) σ) σ) fun v237 =>
  if v237 = 0 then
  L_SR_takeScan_49 r0 b1 b2 b3 σ n (a4 + (1 : Int32))
  else
  some (.inr v237)
def f_SR_takeScan (k0 : Nat) (x1 : Int32) (x2 : Int32) (σ : Mem) : Option (Int32 × Mem) :=
  lt (f_BY_get (wtg k0 0) (x1 + (4 : Int32)) σ) fun v1 =>
  if x2 < (3 : Int32) then
  some ((3 : Int32), σ)
  else
  if x2 = ((6 : Int32) + ((2 : Int32) * v1)) then
  lt (
  (L_SR_takeScan_49 k0 x1 x2 v1 σ 9999 (0 : Int32)).bind fun q239_ => ecase q239_ (fun q239 =>
  lt ((x1 + (5 : Int32)) + ((2 : Int32) * v1)) fun v240 =>
  lt (f_BY_get (wtg k0 0) (v240 + (1 : Int32)) σ) fun v241 =>
  lt (if v1 = (1 : Int32) then (if v241 = 0 then (1 : Int32) else (0 : Int32)) else (if v241 = (1 : Int32) then (1 : Int32) else (if v241 = (2 : Int32) then (1 : Int32) else (0 : Int32)))) fun v250 =>
  if (3 : Int32) < (f_BY_get (wtg k0 0) v240 σ) then
  some ((4 : Int32), σ)
  else
  if v250 = 0 then
  some ((4 : Int32), σ)
  else
  if (f_BY_get (wtg k0 0) (v240 + (2 : Int32)) σ) = 0 then
  lt (mput σ k0 8 ((f_BY_get (wtg k0 0) (x1 + (5 : Int32)) σ) - (1 : Int32))) fun σ268 =>
  lt (mput σ268 k0 9 v1) fun σ269 =>
  lt (mput σ269 k0 10 (f_BY_get (wtg k0 0) v240 σ269)) fun σ270 =>
  lt (mput σ270 k0 11 v241) fun σ271 =>
  some ((0 : Int32), σ271)
  else
  some ((4 : Int32), σ)) (fun e272 => some (e272, σ))) fun K233 =>
  if v1 = (1 : Int32) then
  K233
  else
  if v1 = (σ (wtg k0 1) 8) then
  K233
  else
  some ((4 : Int32), σ)
  else
  some ((3 : Int32), σ)
set_option maxHeartbeats 4000000 in
set_option maxRecDepth 100000 in
theorem wL_SR_takeScan_49 {F : Fx} (C : Ctx F prog_10_method_19_code 7 "LineFrames$StreamReader" (some .int) 3 68) {cv : Option ((Int32) ⊕ Int32) → Option Rs} (h0 : cv none = none) (r0 : Nat) (hr0 : Is r0 9) (b1 : Int32) (b2 : Int32) (b3 : Int32) (σ : Mem) (hR : ∀ (e : Int32) (ρ : Rs), cv (some (.inr e)) = some ρ → ρ = (.inl (some (.int e)), σ)) (hex : ∀ q : Int32, J F 7 cv (some (.inl q)) σ 108 [(0, .ref (fad F r0)), (1, .int b1), (2, .int b2), (3, .int b3), (4, .int q)] []) : ∀ (n : Nat) (a4 : Int32), J F 7 cv (L_SR_takeScan_49 r0 b1 b2 b3 σ n a4) σ 49 [(0, .ref (fad F r0)), (1, .int b1), (2, .int b2), (3, .int b3), (4, .int a4)] [] := by
  intro n
  induction n with
  | zero => intro a4 hE; rw [L_SR_takeScan_49, h0] at hE; cases hE
  | succ n ih =>
    intro a4
    rw [L_SR_takeScan_49]
    refine j_iload C d_SR_takeScan_49 4 rfl ?_
    refine j_iload_n C d_SR_takeScan_51 3 rfl ?_
    refine j_icmp_ge (tgt := 108) C d_SR_takeScan_52 (by decide) (fun c235 => ?_) (fun c235 => ?_)
    · exact hex a4
    · refine j_iload_n C d_SR_takeScan_55 1 rfl ?_
      refine j_iconst (v := (5 : Int32)) C d_SR_takeScan_56 (by decide) ?_
      refine j_iadd C d_SR_takeScan_57 ?_
      refine j_iconst (v := (2 : Int32)) C d_SR_takeScan_58 (by decide) ?_
      refine j_iload C d_SR_takeScan_59 4 rfl ?_
      refine j_imul C d_SR_takeScan_61 ?_
      refine j_iadd C d_SR_takeScan_62 ?_
      refine j_nm (fun v236 v236_e => ?_)
      refine j_istore (lv9 := [(0, .ref (fad F r0)), (1, .int b1), (2, .int b2), (3, .int b3), (4, .int a4), (5, .int v236)]) C d_SR_takeScan_63 rfl rfl (by decide) ?_
      refine j_aload_n C d_SR_takeScan_65 0 rfl ?_
      refine j_iload C d_SR_takeScan_66 4 rfl ?_
      refine j_iload_n C d_SR_takeScan_68 3 rfl ?_
      refine j_aload_n C d_SR_takeScan_69 0 rfl ?_
      refine j_getR C hr0 fl_SR_72 rfl d_SR_takeScan_70 ?_
      refine j_iload C d_SR_takeScan_73 5 rfl ?_
      refine j_callVi C mv_SR_123 [.int v236] [.int b3, .int a4, .ref (fad F r0)] (tg_9_0 _ hr0) (c_BY_get (tg_9_0 _ hr0) v236 σ) rfl rfl (by decide) (Nat.le_of_ble_eq_true rfl) d_SR_takeScan_75 ?_
      refine j_aload_n C d_SR_takeScan_78 0 rfl ?_
      refine j_getR C hr0 fl_SR_72 rfl d_SR_takeScan_79 ?_
      refine j_iload C d_SR_takeScan_82 5 rfl ?_
      refine j_iconst (v := (1 : Int32)) C d_SR_takeScan_84 (by decide) ?_
      refine j_iadd C d_SR_takeScan_85 ?_
      refine j_callVi C mv_SR_123 [.int (v236 + (1 : Int32))] [.int (f_BY_get (wtg r0 0) v236 σ), .int b3, .int a4, .ref (fad F r0)] (tg_9_0 _ hr0) (c_BY_get (tg_9_0 _ hr0) (v236 + (1 : Int32)) σ) rfl rfl (by decide) (Nat.le_of_ble_eq_true rfl) d_SR_takeScan_86 ?_
      refine j_callVi C mv_SR_220 [.int a4, .int b3, .int (f_BY_get (wtg r0 0) v236 σ), .int (f_BY_get (wtg r0 0) (v236 + (1 : Int32)) σ)] [] hr0 (c_SR_faultOfPart hr0 a4 b3 (f_BY_get (wtg r0 0) v236 σ) (f_BY_get (wtg r0 0) (v236 + (1 : Int32)) σ) σ) rfl rfl (by decide) (Nat.le_of_ble_eq_true rfl) d_SR_takeScan_89 ?_
      refine j_nm (fun v237 v237_e => ?_)
      refine j_istore (lv9 := [(0, .ref (fad F r0)), (1, .int b1), (2, .int b2), (3, .int b3), (4, .int a4), (5, .int v236), (6, .int v237)]) C d_SR_takeScan_92 rfl rfl (by decide) ?_
      refine j_iload C d_SR_takeScan_94 6 rfl ?_
      refine j_if_eq (tgt := 102) C d_SR_takeScan_96 (by decide) (fun c238 => ?_) (fun c238 => ?_)
      · refine j_iinc (v := (a4 + (1 : Int32))) (lv9 := [(0, .ref (fad F r0)), (1, .int b1), (2, .int b2), (3, .int b3), (4, .int (a4 + (1 : Int32))), (5, .int v236), (6, .int v237)]) C d_SR_takeScan_102 4 rfl rfl rfl rfl (by decide) ?_
        refine j_goto (tgt := 49) C d_SR_takeScan_105 (by decide) ?_
        refine j_sub (lv9 := [(0, .ref (fad F r0)), (1, .int b1), (2, .int b2), (3, .int b3), (4, .int (a4 + (1 : Int32)))]) [0, 1, 2, 3, 4] rfl ?_
        exact ih (a4 + (1 : Int32))
      · refine j_iload C d_SR_takeScan_99 6 rfl ?_
        exact j_ireti C (hR v237) d_SR_takeScan_101
set_option maxHeartbeats 4000000 in
set_option maxRecDepth 100000 in
theorem w_SR_takeScan {F : Fx} (C : Ctx F prog_10_method_19_code 7 "LineFrames$StreamReader" (some .int) 3 68) {k0 : Nat} (h0k : Is k0 9) (x1 : Int32) (x2 : Int32) (σ : Mem) : J F 7 (cvO cvIM) (f_SR_takeScan k0 x1 x2 σ) σ 0 [(0, .ref (fad F k0)), (1, .int x1), (2, .int x2)] [] := by
  unfold f_SR_takeScan
  refine j_aload_n C d_SR_takeScan_0 0 rfl ?_
  refine j_getR C h0k fl_SR_72 rfl d_SR_takeScan_1 ?_
  refine j_iload_n C d_SR_takeScan_4 1 rfl ?_
  refine j_iconst (v := (4 : Int32)) C d_SR_takeScan_5 (by decide) ?_
  refine j_iadd C d_SR_takeScan_6 ?_
  refine j_callVi C mv_SR_123 [.int (x1 + (4 : Int32))] [] (tg_9_0 _ h0k) (c_BY_get (tg_9_0 _ h0k) (x1 + (4 : Int32)) σ) rfl rfl (by decide) (Nat.le_of_ble_eq_true rfl) d_SR_takeScan_7 ?_
  refine j_nm (fun v1 v1_e => ?_)
  refine j_istore_n (lv9 := [(0, .ref (fad F k0)), (1, .int x1), (2, .int x2), (3, .int v1)]) C d_SR_takeScan_10 rfl rfl (by decide) ?_
  refine j_iload_n C d_SR_takeScan_11 2 rfl ?_
  refine j_iconst (v := (3 : Int32)) C d_SR_takeScan_12 (by decide) ?_
  refine j_icmp_lt (tgt := 26) C d_SR_takeScan_13 (by decide) (fun c10 => ?_) (fun c10 => ?_)
  · refine j_iconst (v := (3 : Int32)) C d_SR_takeScan_26 (by decide) ?_
    exact j_ireti C (fun ρ h => leaf_eq h) d_SR_takeScan_27
  · refine j_iload_n C d_SR_takeScan_16 2 rfl ?_
    refine j_bipush (v := (6 : Int32)) C d_SR_takeScan_17 (by decide) ?_
    refine j_iconst (v := (2 : Int32)) C d_SR_takeScan_19 (by decide) ?_
    refine j_iload_n C d_SR_takeScan_20 3 rfl ?_
    refine j_imul C d_SR_takeScan_21 ?_
    refine j_iadd C d_SR_takeScan_22 ?_
    refine j_icmp_eq (tgt := 28) C d_SR_takeScan_23 (by decide) (fun c11 => ?_) (fun c11 => ?_)
    · refine j_iload_n C d_SR_takeScan_28 3 rfl ?_
      refine j_iconst (v := (1 : Int32)) C d_SR_takeScan_29 (by decide) ?_
      refine j_join0 46 ([(0, .ref (fad F k0)), (1, .int x1), (2, .int x2), (3, .int v1)]) ([]) (?_) (fun K233 H234 => ?_)
      · refine j_iconst (v := (0 : Int32)) C d_SR_takeScan_46 (by decide) ?_
        refine j_istore (lv9 := [(0, .ref (fad F k0)), (1, .int x1), (2, .int x2), (3, .int v1), (4, .int (0 : Int32))]) C d_SR_takeScan_47 rfl rfl (by decide) ?_
        refine j_loop (wL_SR_takeScan_49 C rfl k0 h0k x1 x2 v1 σ (fun e272 ρ h => leaf_eq h) (fun q239 => j_some ?_) 9999 (0 : Int32))
        refine j_ecl ?_
        refine j_iload_n C d_SR_takeScan_108 1 rfl ?_
        refine j_iconst (v := (5 : Int32)) C d_SR_takeScan_109 (by decide) ?_
        refine j_iadd C d_SR_takeScan_110 ?_
        refine j_iconst (v := (2 : Int32)) C d_SR_takeScan_111 (by decide) ?_
        refine j_iload_n C d_SR_takeScan_112 3 rfl ?_
        refine j_imul C d_SR_takeScan_113 ?_
        refine j_iadd C d_SR_takeScan_114 ?_
        refine j_nm (fun v240 v240_e => ?_)
        refine j_istore (lv9 := [(0, .ref (fad F k0)), (1, .int x1), (2, .int x2), (3, .int v1), (4, .int v240)]) C d_SR_takeScan_115 rfl rfl (by decide) ?_
        refine j_aload_n C d_SR_takeScan_117 0 rfl ?_
        refine j_getR C h0k fl_SR_72 rfl d_SR_takeScan_118 ?_
        refine j_iload C d_SR_takeScan_121 4 rfl ?_
        refine j_iconst (v := (1 : Int32)) C d_SR_takeScan_123 (by decide) ?_
        refine j_iadd C d_SR_takeScan_124 ?_
        refine j_callVi C mv_SR_123 [.int (v240 + (1 : Int32))] [] (tg_9_0 _ h0k) (c_BY_get (tg_9_0 _ h0k) (v240 + (1 : Int32)) σ) rfl rfl (by decide) (Nat.le_of_ble_eq_true rfl) d_SR_takeScan_125 ?_
        refine j_nm (fun v241 v241_e => ?_)
        refine j_istore (lv9 := [(0, .ref (fad F k0)), (1, .int x1), (2, .int x2), (3, .int v1), (4, .int v240), (5, .int v241)]) C d_SR_takeScan_128 rfl rfl (by decide) ?_
        refine j_iload_n C d_SR_takeScan_130 3 rfl ?_
        refine j_iconst (v := (1 : Int32)) C d_SR_takeScan_131 (by decide) ?_
        refine d_icmp_ne (a := (if v241 = 0 then (1 : Int32) else (0 : Int32))) (b := (if v241 = (1 : Int32) then (1 : Int32) else (if v241 = (2 : Int32) then (1 : Int32) else (0 : Int32)))) (jp := 165) (tgt := 148) C d_SR_takeScan_132 (by decide) (fun c242 k243 => ?_) (fun c242 k243 => ?_) ?_
        · refine j_iload C d_SR_takeScan_148 5 rfl ?_
          refine j_iconst (v := (1 : Int32)) C d_SR_takeScan_150 (by decide) ?_
          refine d_icmp_eq (a := (1 : Int32)) (b := (if v241 = (2 : Int32) then (1 : Int32) else (0 : Int32))) (jp := 165) (tgt := 160) C d_SR_takeScan_151 (by decide) (fun c244 k245 => ?_) (fun c244 k245 => ?_) ?_
          · refine j_iconst (v := (1 : Int32)) C d_SR_takeScan_160 (by decide) ?_
            refine j_goto (tgt := 165) C d_SR_takeScan_161 (by decide) ?_
            exact k245
          · refine j_iload C d_SR_takeScan_154 5 rfl ?_
            refine j_iconst (v := (2 : Int32)) C d_SR_takeScan_156 (by decide) ?_
            refine d_icmp_ne (a := (1 : Int32)) (b := (0 : Int32)) (jp := 165) (tgt := 164) C d_SR_takeScan_157 (by decide) (fun c246 k247 => ?_) (fun c246 k247 => ?_) ?_
            · refine j_iconst (v := (0 : Int32)) C d_SR_takeScan_164 (by decide) ?_
              exact k247
            · refine j_iconst (v := (1 : Int32)) C d_SR_takeScan_160 (by decide) ?_
              refine j_goto (tgt := 165) C d_SR_takeScan_161 (by decide) ?_
              exact k247
            exact k245
          exact k243
        · refine j_iload C d_SR_takeScan_135 5 rfl ?_
          refine d_if_ne (a := (1 : Int32)) (b := (0 : Int32)) (jp := 165) (tgt := 144) C d_SR_takeScan_137 (by decide) (fun c248 k249 => ?_) (fun c248 k249 => ?_) ?_
          · refine j_iconst (v := (0 : Int32)) C d_SR_takeScan_144 (by decide) ?_
            refine j_goto (tgt := 165) C d_SR_takeScan_145 (by decide) ?_
            exact k249
          · refine j_iconst (v := (1 : Int32)) C d_SR_takeScan_140 (by decide) ?_
            refine j_goto (tgt := 165) C d_SR_takeScan_141 (by decide) ?_
            exact k249
          exact k243
        refine j_nm (fun v250 v250_e => ?_)
        refine j_istore (lv9 := [(0, .ref (fad F k0)), (1, .int x1), (2, .int x2), (3, .int v1), (4, .int v240), (5, .int v241), (6, .int v250)]) C d_SR_takeScan_165 rfl rfl (by decide) ?_
        refine j_aload_n C d_SR_takeScan_167 0 rfl ?_
        refine j_getR C h0k fl_SR_72 rfl d_SR_takeScan_168 ?_
        refine j_iload C d_SR_takeScan_171 4 rfl ?_
        refine j_callVi C mv_SR_123 [.int v240] [] (tg_9_0 _ h0k) (c_BY_get (tg_9_0 _ h0k) v240 σ) rfl rfl (by decide) (Nat.le_of_ble_eq_true rfl) d_SR_takeScan_173 ?_
        refine j_iconst (v := (3 : Int32)) C d_SR_takeScan_176 (by decide) ?_
        refine j_icmp_gt (tgt := 199) C d_SR_takeScan_177 (by decide) (fun c259 => ?_) (fun c259 => ?_)
        · refine j_iconst (v := (4 : Int32)) C d_SR_takeScan_199 (by decide) ?_
          exact j_ireti C (fun ρ h => leaf_eq h) d_SR_takeScan_200
        · refine j_iload C d_SR_takeScan_180 6 rfl ?_
          refine j_if_eq (tgt := 199) C d_SR_takeScan_182 (by decide) (fun c266 => ?_) (fun c266 => ?_)
          · refine j_iconst (v := (4 : Int32)) C d_SR_takeScan_199 (by decide) ?_
            exact j_ireti C (fun ρ h => leaf_eq h) d_SR_takeScan_200
          · refine j_aload_n C d_SR_takeScan_185 0 rfl ?_
            refine j_getR C h0k fl_SR_72 rfl d_SR_takeScan_186 ?_
            refine j_iload C d_SR_takeScan_189 4 rfl ?_
            refine j_iconst (v := (2 : Int32)) C d_SR_takeScan_191 (by decide) ?_
            refine j_iadd C d_SR_takeScan_192 ?_
            refine j_callVi C mv_SR_123 [.int (v240 + (2 : Int32))] [] (tg_9_0 _ h0k) (c_BY_get (tg_9_0 _ h0k) (v240 + (2 : Int32)) σ) rfl rfl (by decide) (Nat.le_of_ble_eq_true rfl) d_SR_takeScan_193 ?_
            refine j_if_eq (tgt := 201) C d_SR_takeScan_196 (by decide) (fun c267 => ?_) (fun c267 => ?_)
            · refine j_aload_n C d_SR_takeScan_201 0 rfl ?_
              refine j_aload_n C d_SR_takeScan_202 0 rfl ?_
              refine j_getR C h0k fl_SR_72 rfl d_SR_takeScan_203 ?_
              refine j_iload_n C d_SR_takeScan_206 1 rfl ?_
              refine j_iconst (v := (5 : Int32)) C d_SR_takeScan_207 (by decide) ?_
              refine j_iadd C d_SR_takeScan_208 ?_
              refine j_callVi C mv_SR_123 [.int (x1 + (5 : Int32))] [.ref (fad F k0)] (tg_9_0 _ h0k) (c_BY_get (tg_9_0 _ h0k) (x1 + (5 : Int32)) σ) rfl rfl (by decide) (Nat.le_of_ble_eq_true rfl) d_SR_takeScan_209 ?_
              refine j_iconst (v := (1 : Int32)) C d_SR_takeScan_212 (by decide) ?_
              refine j_isub C d_SR_takeScan_213 ?_
              refine j_put C h0k fl_SR_54 fw_9_8 rfl rfl rfl d_SR_takeScan_214 (fun σ268 => ?_)
              refine j_aload_n C d_SR_takeScan_217 0 rfl ?_
              refine j_iload_n C d_SR_takeScan_218 3 rfl ?_
              refine j_put C h0k fl_SR_57 fw_9_9 rfl rfl rfl d_SR_takeScan_219 (fun σ269 => ?_)
              refine j_aload_n C d_SR_takeScan_222 0 rfl ?_
              refine j_aload_n C d_SR_takeScan_223 0 rfl ?_
              refine j_getR C h0k fl_SR_72 rfl d_SR_takeScan_224 ?_
              refine j_iload C d_SR_takeScan_227 4 rfl ?_
              refine j_callVi C mv_SR_123 [.int v240] [.ref (fad F k0)] (tg_9_0 _ h0k) (c_BY_get (tg_9_0 _ h0k) v240 σ269) rfl rfl (by decide) (Nat.le_of_ble_eq_true rfl) d_SR_takeScan_229 ?_
              refine j_put C h0k fl_SR_60 fw_9_10 rfl rfl rfl d_SR_takeScan_232 (fun σ270 => ?_)
              refine j_aload_n C d_SR_takeScan_235 0 rfl ?_
              refine j_iload C d_SR_takeScan_236 5 rfl ?_
              refine j_put C h0k fl_SR_63 fw_9_11 rfl rfl rfl d_SR_takeScan_238 (fun σ271 => ?_)
              refine j_iconst (v := (0 : Int32)) C d_SR_takeScan_241 (by decide) ?_
              exact j_ireti C (fun ρ h => leaf_eq h) d_SR_takeScan_242
            · refine j_iconst (v := (4 : Int32)) C d_SR_takeScan_199 (by decide) ?_
              exact j_ireti C (fun ρ h => leaf_eq h) d_SR_takeScan_200
      · refine j_icmp_eq (tgt := 46) C d_SR_takeScan_30 (by decide) (fun c273 => ?_) (fun c273 => ?_)
        · exact H234
        · refine j_iload_n C d_SR_takeScan_33 3 rfl ?_
          refine j_aload_n C d_SR_takeScan_34 0 rfl ?_
          refine j_getR C h0k fl_SR_12 rfl d_SR_takeScan_35 ?_
          refine j_getI C (tg_9_1 _ h0k) fl_SR_136 rfl d_SR_takeScan_38 ?_
          refine j_icmp_eq (tgt := 46) C d_SR_takeScan_41 (by decide) (fun c274 => ?_) (fun c274 => ?_)
          · exact H234
          · refine j_iconst (v := (4 : Int32)) C d_SR_takeScan_44 (by decide) ?_
            exact j_ireti C (fun ρ h => leaf_eq h) d_SR_takeScan_45
    · refine j_iconst (v := (3 : Int32)) C d_SR_takeScan_26 (by decide) ?_
      exact j_ireti C (fun ρ h => leaf_eq h) d_SR_takeScan_27
theorem c_SR_takeScan {l : Launch} {D : va_G} {G : GC} {ad : Nat → Nat} {k0 : Nat} (h0k : Is k0 9) (x1 : Int32) (x2 : Int32) (σ : Mem) {q : Int32 × Mem} (hq : f_SR_takeScan k0 x1 x2 σ = some q) : Ctr l D G ad ⟨"LineFrames$StreamReader", "takeScan", "(II)I"⟩ prog_10_method_19_code 7 (some .int) 3 68 [.ref (ad k0), .int x1, .int x2] σ (.inl (some (.int q.1)), q.2) := ctr_J (cv := (cvO cvIM)) (E := f_SR_takeScan k0 x1 x2 σ) (by decide +kernel) (Nat.le_of_ble_eq_true rfl) (by rw [hq]; rfl) (fun F h C => by subst h; exact w_SR_takeScan C h0k x1 x2 σ)
/-! LineFrames$Notes full ()Z -/
theorem d_NO_full_0 : decode prog_7_method_3_code 0 = .ok (.aload_n 0, 1) := by decide +kernel
theorem d_NO_full_1 : decode prog_7_method_3_code 1 = .ok (.getfield 26, 3) := by decide +kernel
theorem d_NO_full_4 : decode prog_7_method_3_code 4 = .ok (.bipush 6, 2) := by decide +kernel
theorem d_NO_full_6 : decode prog_7_method_3_code 6 = .ok (.if_icmp .lt 7, 3) := by decide +kernel
theorem d_NO_full_9 : decode prog_7_method_3_code 9 = .ok (.iconst 1, 1) := by decide +kernel
theorem d_NO_full_10 : decode prog_7_method_3_code 10 = .ok (.goto 4, 3) := by decide +kernel
theorem d_NO_full_13 : decode prog_7_method_3_code 13 = .ok (.iconst 0, 1) := by decide +kernel
theorem d_NO_full_14 : decode prog_7_method_3_code 14 = .ok (.ireturn, 1) := by decide +kernel
def f_NO_full (k0 : Nat) (σ : Mem) : Int32 :=
  (if (σ k0 3) < (6 : Int32) then (0 : Int32) else (1 : Int32))
set_option maxHeartbeats 4000000 in
set_option maxRecDepth 100000 in
theorem w_NO_full {F : Fx} (C : Ctx F prog_7_method_3_code 1 "LineFrames$Notes" (some .boolean) 0 0) {k0 : Nat} (h0k : Is k0 6) (σ : Mem) : J F 1 (cvI σ) (f_NO_full k0 σ) σ 0 [(0, .ref (fad F k0))] [] := by
  unfold f_NO_full
  refine j_aload_n C d_NO_full_0 0 rfl ?_
  refine j_getI C h0k fl_NO_26 rfl d_NO_full_1 ?_
  refine j_bipush (v := (6 : Int32)) C d_NO_full_4 (by decide) ?_
  refine d_icmp_lt (a := (0 : Int32)) (b := (1 : Int32)) (jp := 14) (tgt := 13) C d_NO_full_6 (by decide) (fun c1 k2 => ?_) (fun c1 k2 => ?_) ?_
  · refine j_iconst (v := (0 : Int32)) C d_NO_full_13 (by decide) ?_
    exact k2
  · refine j_iconst (v := (1 : Int32)) C d_NO_full_9 (by decide) ?_
    refine j_goto (tgt := 14) C d_NO_full_10 (by decide) ?_
    exact k2
  exact j_iretz C (fun ρ h => leaf_eq h) (nz01 (ite01 (Or.inl rfl) (Or.inr rfl))) d_NO_full_14
theorem c_NO_full {l : Launch} {D : va_G} {G : GC} {ad : Nat → Nat} {k0 : Nat} (h0k : Is k0 6) (σ : Mem) : Ctr l D G ad ⟨"LineFrames$Notes", "full", "()Z"⟩ prog_7_method_3_code 1 (some .boolean) 0 0 [.ref (ad k0)] σ (.inl (some (.int (f_NO_full k0 σ))), σ) := ctr_J (cv := (cvI σ)) (E := f_NO_full k0 σ) (by decide +kernel) (Nat.le_of_ble_eq_true rfl) rfl (fun F h C => by subst h; exact w_NO_full C h0k σ)
theorem z_NO_full (k0 : Nat) (σ : Mem) : f_NO_full k0 σ = 0 ∨ f_NO_full k0 σ = 1 := by
  unfold f_NO_full
  try simp only [lt]
  repeat' split
  all_goals first | exact Or.inl rfl | exact Or.inr rfl
/-! LineFrames$Notes open (I)I -/
theorem d_NO_open_0 : decode prog_7_method_8_code 0 = .ok (.aload_n 0, 1) := by decide +kernel
theorem d_NO_open_1 : decode prog_7_method_8_code 1 = .ok (.getfield 26, 3) := by decide +kernel
theorem d_NO_open_4 : decode prog_7_method_8_code 4 = .ok (.istore_n 2, 1) := by decide +kernel
theorem d_NO_open_5 : decode prog_7_method_8_code 5 = .ok (.aload_n 0, 1) := by decide +kernel
theorem d_NO_open_6 : decode prog_7_method_8_code 6 = .ok (.getfield 14, 3) := by decide +kernel
theorem d_NO_open_9 : decode prog_7_method_8_code 9 = .ok (.iload_n 2, 1) := by decide +kernel
theorem d_NO_open_10 : decode prog_7_method_8_code 10 = .ok (.iload_n 1, 1) := by decide +kernel
theorem d_NO_open_11 : decode prog_7_method_8_code 11 = .ok (.invokevirtual 34, 3) := by decide +kernel
theorem d_NO_open_14 : decode prog_7_method_8_code 14 = .ok (.aload_n 0, 1) := by decide +kernel
theorem d_NO_open_15 : decode prog_7_method_8_code 15 = .ok (.getfield 20, 3) := by decide +kernel
theorem d_NO_open_18 : decode prog_7_method_8_code 18 = .ok (.iload_n 2, 1) := by decide +kernel
theorem d_NO_open_19 : decode prog_7_method_8_code 19 = .ok (.iconst 0, 1) := by decide +kernel
theorem d_NO_open_20 : decode prog_7_method_8_code 20 = .ok (.invokevirtual 34, 3) := by decide +kernel
theorem d_NO_open_23 : decode prog_7_method_8_code 23 = .ok (.aload_n 0, 1) := by decide +kernel
theorem d_NO_open_24 : decode prog_7_method_8_code 24 = .ok (.dup, 1) := by decide +kernel
theorem d_NO_open_25 : decode prog_7_method_8_code 25 = .ok (.getfield 26, 3) := by decide +kernel
theorem d_NO_open_28 : decode prog_7_method_8_code 28 = .ok (.iconst 1, 1) := by decide +kernel
theorem d_NO_open_29 : decode prog_7_method_8_code 29 = .ok (.iadd, 1) := by decide +kernel
theorem d_NO_open_30 : decode prog_7_method_8_code 30 = .ok (.putfield 26, 3) := by decide +kernel
theorem d_NO_open_33 : decode prog_7_method_8_code 33 = .ok (.iload_n 2, 1) := by decide +kernel
theorem d_NO_open_34 : decode prog_7_method_8_code 34 = .ok (.ireturn, 1) := by decide +kernel
def f_NO_open (k0 : Nat) (x1 : Int32) (σ : Mem) : Int32 × Mem :=
  lt (f_RO_set (wtg k0 0) (σ k0 3) x1 σ) fun σ1 =>
  lt (f_RO_set (wtg k0 1) (σ k0 3) (0 : Int32) σ1) fun σ2 =>
  lt (mput σ2 k0 3 ((σ2 k0 3) + (1 : Int32))) fun σ3 =>
  ((σ k0 3), σ3)
set_option maxHeartbeats 4000000 in
set_option maxRecDepth 100000 in
theorem w_NO_open {F : Fx} (C : Ctx F prog_7_method_8_code 3 "LineFrames$Notes" (some .int) 1 22) {k0 : Nat} (h0k : Is k0 6) (x1 : Int32) (σ : Mem) : J F 3 cvIM (f_NO_open k0 x1 σ) σ 0 [(0, .ref (fad F k0)), (1, .int x1)] [] := by
  unfold f_NO_open
  refine j_aload_n C d_NO_open_0 0 rfl ?_
  refine j_getI C h0k fl_NO_26 rfl d_NO_open_1 ?_
  refine j_istore_n (lv9 := [(0, .ref (fad F k0)), (1, .int x1), (2, .int (σ k0 3))]) C d_NO_open_4 rfl rfl (by decide) ?_
  refine j_aload_n C d_NO_open_5 0 rfl ?_
  refine j_getR C h0k fl_NO_14 rfl d_NO_open_6 ?_
  refine j_iload_n C d_NO_open_9 2 rfl ?_
  refine j_iload_n C d_NO_open_10 1 rfl ?_
  refine j_callVv C mv_NO_34 [.int (σ k0 3), .int x1] [] (tg_6_0 _ h0k) (c_RO_set (tg_6_0 _ h0k) (σ k0 3) x1 σ) rfl rfl (by decide) (Nat.le_of_ble_eq_true rfl) d_NO_open_11 ?_
  refine j_genM (fun σ1 => ?_)
  refine j_aload_n C d_NO_open_14 0 rfl ?_
  refine j_getR C h0k fl_NO_20 rfl d_NO_open_15 ?_
  refine j_iload_n C d_NO_open_18 2 rfl ?_
  refine j_iconst (v := (0 : Int32)) C d_NO_open_19 (by decide) ?_
  refine j_callVv C mv_NO_34 [.int (σ k0 3), .int (0 : Int32)] [] (tg_6_1 _ h0k) (c_RO_set (tg_6_1 _ h0k) (σ k0 3) (0 : Int32) σ1) rfl rfl (by decide) (Nat.le_of_ble_eq_true rfl) d_NO_open_20 ?_
  refine j_genM (fun σ2 => ?_)
  refine j_aload_n C d_NO_open_23 0 rfl ?_
  refine j_dup C d_NO_open_24 rfl ?_
  refine j_getI C h0k fl_NO_26 rfl d_NO_open_25 ?_
  refine j_iconst (v := (1 : Int32)) C d_NO_open_28 (by decide) ?_
  refine j_iadd C d_NO_open_29 ?_
  refine j_put C h0k fl_NO_26 fw_6_3 rfl rfl rfl d_NO_open_30 (fun σ3 => ?_)
  refine j_iload_n C d_NO_open_33 2 rfl ?_
  exact j_ireti C (fun ρ h => leaf_eq h) d_NO_open_34
theorem c_NO_open {l : Launch} {D : va_G} {G : GC} {ad : Nat → Nat} {k0 : Nat} (h0k : Is k0 6) (x1 : Int32) (σ : Mem) : Ctr l D G ad ⟨"LineFrames$Notes", "open", "(I)I"⟩ prog_7_method_8_code 3 (some .int) 1 22 [.ref (ad k0), .int x1] σ (.inl (some (.int (f_NO_open k0 x1 σ).1)), (f_NO_open k0 x1 σ).2) := ctr_J (cv := cvIM) (E := f_NO_open k0 x1 σ) (by decide +kernel) (Nat.le_of_ble_eq_true rfl) rfl (fun F h C => by subst h; exact w_NO_open C h0k x1 σ)
/-! LineFrames$Notes append (II)I -/
theorem d_NO_append_0 : decode prog_7_method_9_code 0 = .ok (.aload_n 0, 1) := by decide +kernel
theorem d_NO_append_1 : decode prog_7_method_9_code 1 = .ok (.getfield 20, 3) := by decide +kernel
theorem d_NO_append_4 : decode prog_7_method_9_code 4 = .ok (.iload_n 1, 1) := by decide +kernel
theorem d_NO_append_5 : decode prog_7_method_9_code 5 = .ok (.invokevirtual 30, 3) := by decide +kernel
theorem d_NO_append_8 : decode prog_7_method_9_code 8 = .ok (.istore_n 3, 1) := by decide +kernel
theorem d_NO_append_9 : decode prog_7_method_9_code 9 = .ok (.aload_n 0, 1) := by decide +kernel
theorem d_NO_append_10 : decode prog_7_method_9_code 10 = .ok (.getfield 23, 3) := by decide +kernel
theorem d_NO_append_13 : decode prog_7_method_9_code 13 = .ok (.iload_n 1, 1) := by decide +kernel
theorem d_NO_append_14 : decode prog_7_method_9_code 14 = .ok (.bipush 30, 2) := by decide +kernel
theorem d_NO_append_16 : decode prog_7_method_9_code 16 = .ok (.imul, 1) := by decide +kernel
theorem d_NO_append_17 : decode prog_7_method_9_code 17 = .ok (.iload_n 3, 1) := by decide +kernel
theorem d_NO_append_18 : decode prog_7_method_9_code 18 = .ok (.iadd, 1) := by decide +kernel
theorem d_NO_append_19 : decode prog_7_method_9_code 19 = .ok (.iload_n 2, 1) := by decide +kernel
theorem d_NO_append_20 : decode prog_7_method_9_code 20 = .ok (.invokevirtual 34, 3) := by decide +kernel
theorem d_NO_append_23 : decode prog_7_method_9_code 23 = .ok (.aload_n 0, 1) := by decide +kernel
theorem d_NO_append_24 : decode prog_7_method_9_code 24 = .ok (.getfield 20, 3) := by decide +kernel
theorem d_NO_append_27 : decode prog_7_method_9_code 27 = .ok (.iload_n 1, 1) := by decide +kernel
theorem d_NO_append_28 : decode prog_7_method_9_code 28 = .ok (.iload_n 3, 1) := by decide +kernel
theorem d_NO_append_29 : decode prog_7_method_9_code 29 = .ok (.iconst 1, 1) := by decide +kernel
theorem d_NO_append_30 : decode prog_7_method_9_code 30 = .ok (.iadd, 1) := by decide +kernel
theorem d_NO_append_31 : decode prog_7_method_9_code 31 = .ok (.invokevirtual 34, 3) := by decide +kernel
theorem d_NO_append_34 : decode prog_7_method_9_code 34 = .ok (.iload_n 3, 1) := by decide +kernel
theorem d_NO_append_35 : decode prog_7_method_9_code 35 = .ok (.iconst 1, 1) := by decide +kernel
theorem d_NO_append_36 : decode prog_7_method_9_code 36 = .ok (.iadd, 1) := by decide +kernel
theorem d_NO_append_37 : decode prog_7_method_9_code 37 = .ok (.ireturn, 1) := by decide +kernel
def f_NO_append (k0 : Nat) (x1 : Int32) (x2 : Int32) (σ : Mem) : Int32 × Mem :=
  lt (f_RO_set (wtg k0 2) ((x1 * (30 : Int32)) + (f_RO_get (wtg k0 1) x1 σ)) x2 σ) fun σ1 =>
  lt (f_RO_set (wtg k0 1) x1 ((f_RO_get (wtg k0 1) x1 σ) + (1 : Int32)) σ1) fun σ2 =>
  (((f_RO_get (wtg k0 1) x1 σ) + (1 : Int32)), σ2)
set_option maxHeartbeats 4000000 in
set_option maxRecDepth 100000 in
theorem w_NO_append {F : Fx} (C : Ctx F prog_7_method_9_code 4 "LineFrames$Notes" (some .int) 1 22) {k0 : Nat} (h0k : Is k0 6) (x1 : Int32) (x2 : Int32) (σ : Mem) : J F 4 cvIM (f_NO_append k0 x1 x2 σ) σ 0 [(0, .ref (fad F k0)), (1, .int x1), (2, .int x2)] [] := by
  unfold f_NO_append
  refine j_aload_n C d_NO_append_0 0 rfl ?_
  refine j_getR C h0k fl_NO_20 rfl d_NO_append_1 ?_
  refine j_iload_n C d_NO_append_4 1 rfl ?_
  refine j_callVi C mv_NO_30 [.int x1] [] (tg_6_1 _ h0k) (c_RO_get (tg_6_1 _ h0k) x1 σ) rfl rfl (by decide) (Nat.le_of_ble_eq_true rfl) d_NO_append_5 ?_
  refine j_istore_n (lv9 := [(0, .ref (fad F k0)), (1, .int x1), (2, .int x2), (3, .int (f_RO_get (wtg k0 1) x1 σ))]) C d_NO_append_8 rfl rfl (by decide) ?_
  refine j_aload_n C d_NO_append_9 0 rfl ?_
  refine j_getR C h0k fl_NO_23 rfl d_NO_append_10 ?_
  refine j_iload_n C d_NO_append_13 1 rfl ?_
  refine j_bipush (v := (30 : Int32)) C d_NO_append_14 (by decide) ?_
  refine j_imul C d_NO_append_16 ?_
  refine j_iload_n C d_NO_append_17 3 rfl ?_
  refine j_iadd C d_NO_append_18 ?_
  refine j_iload_n C d_NO_append_19 2 rfl ?_
  refine j_callVv C mv_NO_34 [.int ((x1 * (30 : Int32)) + (f_RO_get (wtg k0 1) x1 σ)), .int x2] [] (tg_6_2 _ h0k) (c_RO_set (tg_6_2 _ h0k) ((x1 * (30 : Int32)) + (f_RO_get (wtg k0 1) x1 σ)) x2 σ) rfl rfl (by decide) (Nat.le_of_ble_eq_true rfl) d_NO_append_20 ?_
  refine j_genM (fun σ1 => ?_)
  refine j_aload_n C d_NO_append_23 0 rfl ?_
  refine j_getR C h0k fl_NO_20 rfl d_NO_append_24 ?_
  refine j_iload_n C d_NO_append_27 1 rfl ?_
  refine j_iload_n C d_NO_append_28 3 rfl ?_
  refine j_iconst (v := (1 : Int32)) C d_NO_append_29 (by decide) ?_
  refine j_iadd C d_NO_append_30 ?_
  refine j_callVv C mv_NO_34 [.int x1, .int ((f_RO_get (wtg k0 1) x1 σ) + (1 : Int32))] [] (tg_6_1 _ h0k) (c_RO_set (tg_6_1 _ h0k) x1 ((f_RO_get (wtg k0 1) x1 σ) + (1 : Int32)) σ1) rfl rfl (by decide) (Nat.le_of_ble_eq_true rfl) d_NO_append_31 ?_
  refine j_genM (fun σ2 => ?_)
  refine j_iload_n C d_NO_append_34 3 rfl ?_
  refine j_iconst (v := (1 : Int32)) C d_NO_append_35 (by decide) ?_
  refine j_iadd C d_NO_append_36 ?_
  exact j_ireti C (fun ρ h => leaf_eq h) d_NO_append_37
theorem c_NO_append {l : Launch} {D : va_G} {G : GC} {ad : Nat → Nat} {k0 : Nat} (h0k : Is k0 6) (x1 : Int32) (x2 : Int32) (σ : Mem) : Ctr l D G ad ⟨"LineFrames$Notes", "append", "(II)I"⟩ prog_7_method_9_code 4 (some .int) 1 22 [.ref (ad k0), .int x1, .int x2] σ (.inl (some (.int (f_NO_append k0 x1 x2 σ).1)), (f_NO_append k0 x1 x2 σ).2) := ctr_J (cv := cvIM) (E := f_NO_append k0 x1 x2 σ) (by decide +kernel) (Nat.le_of_ble_eq_true rfl) rfl (fun F h C => by subst h; exact w_NO_append C h0k x1 x2 σ)
/-! LineFrames$StreamReader takeNote (III)I -/
theorem d_SR_takeNote_0 : decode prog_10_method_13_code 0 = .ok (.aload_n 0, 1) := by decide +kernel
theorem d_SR_takeNote_1 : decode prog_10_method_13_code 1 = .ok (.getfield 12, 3) := by decide +kernel
theorem d_SR_takeNote_4 : decode prog_10_method_13_code 4 = .ok (.getfield 165, 3) := by decide +kernel
theorem d_SR_takeNote_7 : decode prog_10_method_13_code 7 = .ok (.invokevirtual 169, 3) := by decide +kernel
theorem d_SR_takeNote_10 : decode prog_10_method_13_code 10 = .ok (.ifCond .ne 11, 3) := by decide +kernel
theorem d_SR_takeNote_13 : decode prog_10_method_13_code 13 = .ok (.iload_n 3, 1) := by decide +kernel
theorem d_SR_takeNote_14 : decode prog_10_method_13_code 14 = .ok (.iconst 2, 1) := by decide +kernel
theorem d_SR_takeNote_15 : decode prog_10_method_13_code 15 = .ok (.isub, 1) := by decide +kernel
theorem d_SR_takeNote_16 : decode prog_10_method_13_code 16 = .ok (.bipush 30, 2) := by decide +kernel
theorem d_SR_takeNote_18 : decode prog_10_method_13_code 18 = .ok (.if_icmp .le 5, 3) := by decide +kernel
theorem d_SR_takeNote_21 : decode prog_10_method_13_code 21 = .ok (.iconst 4, 1) := by decide +kernel
theorem d_SR_takeNote_22 : decode prog_10_method_13_code 22 = .ok (.ireturn, 1) := by decide +kernel
theorem d_SR_takeNote_23 : decode prog_10_method_13_code 23 = .ok (.aload_n 0, 1) := by decide +kernel
theorem d_SR_takeNote_24 : decode prog_10_method_13_code 24 = .ok (.getfield 12, 3) := by decide +kernel
theorem d_SR_takeNote_27 : decode prog_10_method_13_code 27 = .ok (.getfield 165, 3) := by decide +kernel
theorem d_SR_takeNote_30 : decode prog_10_method_13_code 30 = .ok (.iload_n 1, 1) := by decide +kernel
theorem d_SR_takeNote_31 : decode prog_10_method_13_code 31 = .ok (.sipush 254, 3) := by decide +kernel
theorem d_SR_takeNote_34 : decode prog_10_method_13_code 34 = .ok (.if_icmp .ne 8, 3) := by decide +kernel
theorem d_SR_takeNote_37 : decode prog_10_method_13_code 37 = .ok (.bipush 16, 2) := by decide +kernel
theorem d_SR_takeNote_39 : decode prog_10_method_13_code 39 = .ok (.goto 8, 3) := by decide +kernel
theorem d_SR_takeNote_42 : decode prog_10_method_13_code 42 = .ok (.iload_n 1, 1) := by decide +kernel
theorem d_SR_takeNote_43 : decode prog_10_method_13_code 43 = .ok (.sipush 224, 3) := by decide +kernel
theorem d_SR_takeNote_46 : decode prog_10_method_13_code 46 = .ok (.isub, 1) := by decide +kernel
theorem d_SR_takeNote_47 : decode prog_10_method_13_code 47 = .ok (.invokevirtual 174, 3) := by decide +kernel
theorem d_SR_takeNote_50 : decode prog_10_method_13_code 50 = .ok (.istore 4, 2) := by decide +kernel
theorem d_SR_takeNote_52 : decode prog_10_method_13_code 52 = .ok (.iconst 0, 1) := by decide +kernel
theorem d_SR_takeNote_53 : decode prog_10_method_13_code 53 = .ok (.istore 5, 2) := by decide +kernel
theorem d_SR_takeNote_55 : decode prog_10_method_13_code 55 = .ok (.iload 5, 2) := by decide +kernel
theorem d_SR_takeNote_57 : decode prog_10_method_13_code 57 = .ok (.iload_n 3, 1) := by decide +kernel
theorem d_SR_takeNote_58 : decode prog_10_method_13_code 58 = .ok (.iconst 2, 1) := by decide +kernel
theorem d_SR_takeNote_59 : decode prog_10_method_13_code 59 = .ok (.isub, 1) := by decide +kernel
theorem d_SR_takeNote_60 : decode prog_10_method_13_code 60 = .ok (.if_icmp .ge 35, 3) := by decide +kernel
theorem d_SR_takeNote_63 : decode prog_10_method_13_code 63 = .ok (.aload_n 0, 1) := by decide +kernel
theorem d_SR_takeNote_64 : decode prog_10_method_13_code 64 = .ok (.getfield 12, 3) := by decide +kernel
theorem d_SR_takeNote_67 : decode prog_10_method_13_code 67 = .ok (.getfield 165, 3) := by decide +kernel
theorem d_SR_takeNote_70 : decode prog_10_method_13_code 70 = .ok (.iload 4, 2) := by decide +kernel
theorem d_SR_takeNote_72 : decode prog_10_method_13_code 72 = .ok (.aload_n 0, 1) := by decide +kernel
theorem d_SR_takeNote_73 : decode prog_10_method_13_code 73 = .ok (.getfield 72, 3) := by decide +kernel
theorem d_SR_takeNote_76 : decode prog_10_method_13_code 76 = .ok (.iload_n 2, 1) := by decide +kernel
theorem d_SR_takeNote_77 : decode prog_10_method_13_code 77 = .ok (.iconst 4, 1) := by decide +kernel
theorem d_SR_takeNote_78 : decode prog_10_method_13_code 78 = .ok (.iadd, 1) := by decide +kernel
theorem d_SR_takeNote_79 : decode prog_10_method_13_code 79 = .ok (.iload 5, 2) := by decide +kernel
theorem d_SR_takeNote_81 : decode prog_10_method_13_code 81 = .ok (.iadd, 1) := by decide +kernel
theorem d_SR_takeNote_82 : decode prog_10_method_13_code 82 = .ok (.invokevirtual 123, 3) := by decide +kernel
theorem d_SR_takeNote_85 : decode prog_10_method_13_code 85 = .ok (.invokevirtual 177, 3) := by decide +kernel
theorem d_SR_takeNote_88 : decode prog_10_method_13_code 88 = .ok (.pop, 1) := by decide +kernel
theorem d_SR_takeNote_89 : decode prog_10_method_13_code 89 = .ok (.iinc 5 1, 3) := by decide +kernel
theorem d_SR_takeNote_92 : decode prog_10_method_13_code 92 = .ok (.goto (-37), 3) := by decide +kernel
theorem d_SR_takeNote_95 : decode prog_10_method_13_code 95 = .ok (.iconst 0, 1) := by decide +kernel
theorem d_SR_takeNote_96 : decode prog_10_method_13_code 96 = .ok (.ireturn, 1) := by decide +kernel
def L_SR_takeNote_55 (r0 : Nat) (b1 : Int32) (b2 : Int32) (b3 : Int32) (b4 : Int32) : Nat → Int32 → Mem →  Option (Int32 × Mem)
  | 0, _, _ => none
  | n + 1, a5, σ =>
  if (b3 - (2 : Int32)) ≤ a5 then
  some (a5, σ)
  else
  lt (f_NO_append (wtg (wtg r0 1) 4) b4 (f_BY_get (wtg r0 0) ((b2 + (4 : Int32)) + a5) σ) σ) fun q15 =>
  L_SR_takeNote_55 r0 b1 b2 b3 b4 n (a5 + (1 : Int32)) q15.2
def f_SR_takeNote (k0 : Nat) (x1 : Int32) (x2 : Int32) (x3 : Int32) (σ : Mem) : Option (Int32 × Mem) :=
  if (f_NO_full (wtg (wtg k0 1) 4) σ) = 0 then
  if (x3 - (2 : Int32)) ≤ (30 : Int32) then
  lt (f_NO_open (wtg (wtg k0 1) 4) (if x1 = (254 : Int32) then (16 : Int32) else (x1 - (224 : Int32))) σ) fun q13 =>
  (L_SR_takeNote_55 k0 x1 x2 x3 q13.1 9999 (0 : Int32) q13.2).bind fun q16 =>
  some ((0 : Int32), q16.2)
  else
  some ((4 : Int32), σ)
  else
  some ((4 : Int32), σ)
set_option maxHeartbeats 4000000 in
set_option maxRecDepth 100000 in
theorem wL_SR_takeNote_55 {F : Fx} (C : Ctx F prog_10_method_13_code 6 "LineFrames$StreamReader" (some .int) 2 45) {cv : Option (Int32 × Mem) → Option Rs} (h0 : cv none = none) (r0 : Nat) (hr0 : Is r0 9) (b1 : Int32) (b2 : Int32) (b3 : Int32) (b4 : Int32) (hex : ∀ q : Int32 × Mem, J F 6 cv (some q) q.2 95 [(0, .ref (fad F r0)), (1, .int b1), (2, .int b2), (3, .int b3), (4, .int b4), (5, .int q.1)] []) : ∀ (n : Nat) (a5 : Int32) (σ : Mem), J F 6 cv (L_SR_takeNote_55 r0 b1 b2 b3 b4 n a5 σ) σ 55 [(0, .ref (fad F r0)), (1, .int b1), (2, .int b2), (3, .int b3), (4, .int b4), (5, .int a5)] [] := by
  intro n
  induction n with
  | zero => intro a5 σ hE; rw [L_SR_takeNote_55, h0] at hE; cases hE
  | succ n ih =>
    intro a5 σ
    rw [L_SR_takeNote_55]
    refine j_iload C d_SR_takeNote_55 5 rfl ?_
    refine j_iload_n C d_SR_takeNote_57 3 rfl ?_
    refine j_iconst (v := (2 : Int32)) C d_SR_takeNote_58 (by decide) ?_
    refine j_isub C d_SR_takeNote_59 ?_
    refine j_icmp_ge (tgt := 95) C d_SR_takeNote_60 (by decide) (fun c14 => ?_) (fun c14 => ?_)
    · exact hex (a5, σ)
    · refine j_aload_n C d_SR_takeNote_63 0 rfl ?_
      refine j_getR C hr0 fl_SR_12 rfl d_SR_takeNote_64 ?_
      refine j_getR C (tg_9_1 _ hr0) fl_SR_165 rfl d_SR_takeNote_67 ?_
      refine j_iload C d_SR_takeNote_70 4 rfl ?_
      refine j_aload_n C d_SR_takeNote_72 0 rfl ?_
      refine j_getR C hr0 fl_SR_72 rfl d_SR_takeNote_73 ?_
      refine j_iload_n C d_SR_takeNote_76 2 rfl ?_
      refine j_iconst (v := (4 : Int32)) C d_SR_takeNote_77 (by decide) ?_
      refine j_iadd C d_SR_takeNote_78 ?_
      refine j_iload C d_SR_takeNote_79 5 rfl ?_
      refine j_iadd C d_SR_takeNote_81 ?_
      refine j_callVi C mv_SR_123 [.int ((b2 + (4 : Int32)) + a5)] [.int b4, .ref (fad F (wtg (wtg r0 1) 4))] (tg_9_0 _ hr0) (c_BY_get (tg_9_0 _ hr0) ((b2 + (4 : Int32)) + a5) σ) rfl rfl (by decide) (Nat.le_of_ble_eq_true rfl) d_SR_takeNote_82 ?_
      refine j_callVi C mv_SR_177 [.int b4, .int (f_BY_get (wtg r0 0) ((b2 + (4 : Int32)) + a5) σ)] [] (tg_7_4 _ (tg_9_1 _ hr0)) (c_NO_append (tg_7_4 _ (tg_9_1 _ hr0)) b4 (f_BY_get (wtg r0 0) ((b2 + (4 : Int32)) + a5) σ) σ) rfl rfl (by decide) (Nat.le_of_ble_eq_true rfl) d_SR_takeNote_85 ?_
      refine j_genIM (fun q15 => ?_)
      refine j_pop C d_SR_takeNote_88 rfl ?_
      refine j_iinc (v := (a5 + (1 : Int32))) (lv9 := [(0, .ref (fad F r0)), (1, .int b1), (2, .int b2), (3, .int b3), (4, .int b4), (5, .int (a5 + (1 : Int32)))]) C d_SR_takeNote_89 5 rfl rfl rfl rfl (by decide) ?_
      refine j_goto (tgt := 55) C d_SR_takeNote_92 (by decide) ?_
      exact ih (a5 + (1 : Int32)) q15.2
set_option maxHeartbeats 4000000 in
set_option maxRecDepth 100000 in
theorem w_SR_takeNote {F : Fx} (C : Ctx F prog_10_method_13_code 6 "LineFrames$StreamReader" (some .int) 2 45) {k0 : Nat} (h0k : Is k0 9) (x1 : Int32) (x2 : Int32) (x3 : Int32) (σ : Mem) : J F 6 (cvO cvIM) (f_SR_takeNote k0 x1 x2 x3 σ) σ 0 [(0, .ref (fad F k0)), (1, .int x1), (2, .int x2), (3, .int x3)] [] := by
  unfold f_SR_takeNote
  refine j_aload_n C d_SR_takeNote_0 0 rfl ?_
  refine j_getR C h0k fl_SR_12 rfl d_SR_takeNote_1 ?_
  refine j_getR C (tg_9_1 _ h0k) fl_SR_165 rfl d_SR_takeNote_4 ?_
  refine j_callVi C mv_SR_169 [] [] (tg_7_4 _ (tg_9_1 _ h0k)) (c_NO_full (tg_7_4 _ (tg_9_1 _ h0k)) σ) rfl rfl (by decide) (Nat.le_of_ble_eq_true rfl) d_SR_takeNote_7 ?_
  refine j_if_ne (tgt := 21) C d_SR_takeNote_10 (by decide) (fun c9 => ?_) (fun c9 => ?_)
  · refine j_iconst (v := (4 : Int32)) C d_SR_takeNote_21 (by decide) ?_
    exact j_ireti C (fun ρ h => leaf_eq h) d_SR_takeNote_22
  · refine j_iload_n C d_SR_takeNote_13 3 rfl ?_
    refine j_iconst (v := (2 : Int32)) C d_SR_takeNote_14 (by decide) ?_
    refine j_isub C d_SR_takeNote_15 ?_
    refine j_bipush (v := (30 : Int32)) C d_SR_takeNote_16 (by decide) ?_
    refine j_icmp_le (tgt := 23) C d_SR_takeNote_18 (by decide) (fun c10 => ?_) (fun c10 => ?_)
    · refine j_aload_n C d_SR_takeNote_23 0 rfl ?_
      refine j_getR C h0k fl_SR_12 rfl d_SR_takeNote_24 ?_
      refine j_getR C (tg_9_1 _ h0k) fl_SR_165 rfl d_SR_takeNote_27 ?_
      refine j_iload_n C d_SR_takeNote_30 1 rfl ?_
      refine j_sipush (v := (254 : Int32)) C d_SR_takeNote_31 (by decide) ?_
      refine d_icmp_ne (a := (16 : Int32)) (b := (x1 - (224 : Int32))) (jp := 47) (tgt := 42) C d_SR_takeNote_34 (by decide) (fun c11 k12 => ?_) (fun c11 k12 => ?_) ?_
      · refine j_iload_n C d_SR_takeNote_42 1 rfl ?_
        refine j_sipush (v := (224 : Int32)) C d_SR_takeNote_43 (by decide) ?_
        refine j_isub C d_SR_takeNote_46 ?_
        exact k12
      · refine j_bipush (v := (16 : Int32)) C d_SR_takeNote_37 (by decide) ?_
        refine j_goto (tgt := 47) C d_SR_takeNote_39 (by decide) ?_
        exact k12
      refine j_callVi C mv_SR_174 [.int (if x1 = (254 : Int32) then (16 : Int32) else (x1 - (224 : Int32)))] [] (tg_7_4 _ (tg_9_1 _ h0k)) (c_NO_open (tg_7_4 _ (tg_9_1 _ h0k)) (if x1 = (254 : Int32) then (16 : Int32) else (x1 - (224 : Int32))) σ) rfl rfl (by decide) (Nat.le_of_ble_eq_true rfl) d_SR_takeNote_47 ?_
      refine j_genIM (fun q13 => ?_)
      refine j_istore (lv9 := [(0, .ref (fad F k0)), (1, .int x1), (2, .int x2), (3, .int x3), (4, .int q13.1)]) C d_SR_takeNote_50 rfl rfl (by decide) ?_
      refine j_iconst (v := (0 : Int32)) C d_SR_takeNote_52 (by decide) ?_
      refine j_istore (lv9 := [(0, .ref (fad F k0)), (1, .int x1), (2, .int x2), (3, .int x3), (4, .int q13.1), (5, .int (0 : Int32))]) C d_SR_takeNote_53 rfl rfl (by decide) ?_
      refine j_loop (wL_SR_takeNote_55 C rfl k0 h0k x1 x2 x3 q13.1 (fun q16 => j_some ?_) 9999 (0 : Int32) q13.2)
      refine j_iconst (v := (0 : Int32)) C d_SR_takeNote_95 (by decide) ?_
      exact j_ireti C (fun ρ h => leaf_eq h) d_SR_takeNote_96
    · refine j_iconst (v := (4 : Int32)) C d_SR_takeNote_21 (by decide) ?_
      exact j_ireti C (fun ρ h => leaf_eq h) d_SR_takeNote_22
theorem c_SR_takeNote {l : Launch} {D : va_G} {G : GC} {ad : Nat → Nat} {k0 : Nat} (h0k : Is k0 9) (x1 : Int32) (x2 : Int32) (x3 : Int32) (σ : Mem) {q : Int32 × Mem} (hq : f_SR_takeNote k0 x1 x2 x3 σ = some q) : Ctr l D G ad ⟨"LineFrames$StreamReader", "takeNote", "(III)I"⟩ prog_10_method_13_code 6 (some .int) 2 45 [.ref (ad k0), .int x1, .int x2, .int x3] σ (.inl (some (.int q.1)), q.2) := ctr_J (cv := (cvO cvIM)) (E := f_SR_takeNote k0 x1 x2 x3 σ) (by decide +kernel) (Nat.le_of_ble_eq_true rfl) (by rw [hq]; rfl) (fun F h C => by subst h; exact w_SR_takeNote C h0k x1 x2 x3 σ)
/-! LineFrames$StreamReader take (III)I -/
theorem d_SR_take_0 : decode prog_10_method_12_code 0 = .ok (.iload_n 1, 1) := by decide +kernel
theorem d_SR_take_1 : decode prog_10_method_12_code 1 = .ok (.lookupswitch 71 #[(218, 64), (221, 57), (247, 43), (248, 50)], 43) := by decide +kernel
theorem d_SR_take_44 : decode prog_10_method_12_code 44 = .ok (.aload_n 0, 1) := by decide +kernel
theorem d_SR_take_45 : decode prog_10_method_12_code 45 = .ok (.iload_n 2, 1) := by decide +kernel
theorem d_SR_take_46 : decode prog_10_method_12_code 46 = .ok (.iload_n 3, 1) := by decide +kernel
theorem d_SR_take_47 : decode prog_10_method_12_code 47 = .ok (.invokevirtual 149, 3) := by decide +kernel
theorem d_SR_take_50 : decode prog_10_method_12_code 50 = .ok (.ireturn, 1) := by decide +kernel
theorem d_SR_take_51 : decode prog_10_method_12_code 51 = .ok (.aload_n 0, 1) := by decide +kernel
theorem d_SR_take_52 : decode prog_10_method_12_code 52 = .ok (.iload_n 2, 1) := by decide +kernel
theorem d_SR_take_53 : decode prog_10_method_12_code 53 = .ok (.iload_n 3, 1) := by decide +kernel
theorem d_SR_take_54 : decode prog_10_method_12_code 54 = .ok (.invokevirtual 153, 3) := by decide +kernel
theorem d_SR_take_57 : decode prog_10_method_12_code 57 = .ok (.ireturn, 1) := by decide +kernel
theorem d_SR_take_58 : decode prog_10_method_12_code 58 = .ok (.aload_n 0, 1) := by decide +kernel
theorem d_SR_take_59 : decode prog_10_method_12_code 59 = .ok (.iload_n 2, 1) := by decide +kernel
theorem d_SR_take_60 : decode prog_10_method_12_code 60 = .ok (.iload_n 3, 1) := by decide +kernel
theorem d_SR_take_61 : decode prog_10_method_12_code 61 = .ok (.invokevirtual 156, 3) := by decide +kernel
theorem d_SR_take_64 : decode prog_10_method_12_code 64 = .ok (.ireturn, 1) := by decide +kernel
theorem d_SR_take_65 : decode prog_10_method_12_code 65 = .ok (.aload_n 0, 1) := by decide +kernel
theorem d_SR_take_66 : decode prog_10_method_12_code 66 = .ok (.iload_n 2, 1) := by decide +kernel
theorem d_SR_take_67 : decode prog_10_method_12_code 67 = .ok (.iload_n 3, 1) := by decide +kernel
theorem d_SR_take_68 : decode prog_10_method_12_code 68 = .ok (.invokevirtual 159, 3) := by decide +kernel
theorem d_SR_take_71 : decode prog_10_method_12_code 71 = .ok (.ireturn, 1) := by decide +kernel
theorem d_SR_take_72 : decode prog_10_method_12_code 72 = .ok (.aload_n 0, 1) := by decide +kernel
theorem d_SR_take_73 : decode prog_10_method_12_code 73 = .ok (.iload_n 1, 1) := by decide +kernel
theorem d_SR_take_74 : decode prog_10_method_12_code 74 = .ok (.iload_n 2, 1) := by decide +kernel
theorem d_SR_take_75 : decode prog_10_method_12_code 75 = .ok (.iload_n 3, 1) := by decide +kernel
theorem d_SR_take_76 : decode prog_10_method_12_code 76 = .ok (.invokevirtual 162, 3) := by decide +kernel
theorem d_SR_take_79 : decode prog_10_method_12_code 79 = .ok (.ireturn, 1) := by decide +kernel
def f_SR_take (k0 : Nat) (x1 : Int32) (x2 : Int32) (x3 : Int32) (σ : Mem) : Option (Int32 × Mem) :=
  if x1 = 218 then
  (f_SR_takeScan k0 x2 x3 σ).bind fun q6 =>
  some (q6.1, q6.2)
  else
  if x1 = 221 then
  lt (f_SR_takeRestarts k0 x2 x3 σ) fun q7 =>
  some (q7.1, q7.2)
  else
  if x1 = 247 then
  (f_SR_takeFrame k0 x2 x3 σ).bind fun q9 =>
  some (q9.1, q9.2)
  else
  if x1 = 248 then
  (f_SR_takePresetsOrTable k0 x2 x3 σ).bind fun q11 =>
  some (q11.1, q11.2)
  else
  (f_SR_takeNote k0 x1 x2 x3 σ).bind fun q13 =>
  some (q13.1, q13.2)
set_option maxHeartbeats 4000000 in
set_option maxRecDepth 100000 in
theorem w_SR_take {F : Fx} (C : Ctx F prog_10_method_12_code 4 "LineFrames$StreamReader" (some .int) 4 94) {k0 : Nat} (h0k : Is k0 9) (x1 : Int32) (x2 : Int32) (x3 : Int32) (σ : Mem) : J F 4 (cvO cvIM) (f_SR_take k0 x1 x2 x3 σ) σ 0 [(0, .ref (fad F k0)), (1, .int x1), (2, .int x2), (3, .int x3)] [] := by
  unfold f_SR_take
  refine j_iload_n C d_SR_take_0 1 rfl ?_
  refine j_case (fun c1 => ?_) (fun c1 => ?_)
  · refine j_look (off := 64) (tgt := 65) C d_SR_take_1 (by decide) (by rw [c1] <;> decide) (by decide) ?_
    refine j_aload_n C d_SR_take_65 0 rfl ?_
    refine j_iload_n C d_SR_take_66 2 rfl ?_
    refine j_iload_n C d_SR_take_67 3 rfl ?_
    refine j_bind rfl (fun q6 e5 => ?_)
    refine j_callVi C mv_SR_159 [.int x2, .int x3] [] h0k (c_SR_takeScan h0k x2 x3 σ e5) rfl rfl (by decide) (Nat.le_of_ble_eq_true rfl) d_SR_take_68 ?_
    exact j_ireti C (fun ρ h => leaf_eq h) d_SR_take_71
  · refine j_case (fun c2 => ?_) (fun c2 => ?_)
    · refine j_look (off := 57) (tgt := 58) C d_SR_take_1 (by decide) (by rw [c2] <;> decide) (by decide) ?_
      refine j_aload_n C d_SR_take_58 0 rfl ?_
      refine j_iload_n C d_SR_take_59 2 rfl ?_
      refine j_iload_n C d_SR_take_60 3 rfl ?_
      refine j_callVi C mv_SR_156 [.int x2, .int x3] [] h0k (c_SR_takeRestarts h0k x2 x3 σ) rfl rfl (by decide) (Nat.le_of_ble_eq_true rfl) d_SR_take_61 ?_
      refine j_genIM (fun q7 => ?_)
      exact j_ireti C (fun ρ h => leaf_eq h) d_SR_take_64
    · refine j_case (fun c3 => ?_) (fun c3 => ?_)
      · refine j_look (off := 43) (tgt := 44) C d_SR_take_1 (by decide) (by rw [c3] <;> decide) (by decide) ?_
        refine j_aload_n C d_SR_take_44 0 rfl ?_
        refine j_iload_n C d_SR_take_45 2 rfl ?_
        refine j_iload_n C d_SR_take_46 3 rfl ?_
        refine j_bind rfl (fun q9 e8 => ?_)
        refine j_callVi C mv_SR_149 [.int x2, .int x3] [] h0k (c_SR_takeFrame h0k x2 x3 σ e8) rfl rfl (by decide) (Nat.le_of_ble_eq_true rfl) d_SR_take_47 ?_
        exact j_ireti C (fun ρ h => leaf_eq h) d_SR_take_50
      · refine j_case (fun c4 => ?_) (fun c4 => ?_)
        · refine j_look (off := 50) (tgt := 51) C d_SR_take_1 (by decide) (by rw [c4] <;> decide) (by decide) ?_
          refine j_aload_n C d_SR_take_51 0 rfl ?_
          refine j_iload_n C d_SR_take_52 2 rfl ?_
          refine j_iload_n C d_SR_take_53 3 rfl ?_
          refine j_bind rfl (fun q11 e10 => ?_)
          refine j_callVi C mv_SR_153 [.int x2, .int x3] [] h0k (c_SR_takePresetsOrTable h0k x2 x3 σ e10) rfl rfl (by decide) (Nat.le_of_ble_eq_true rfl) d_SR_take_54 ?_
          exact j_ireti C (fun ρ h => leaf_eq h) d_SR_take_57
        · refine j_look (off := 71) (tgt := 72) C d_SR_take_1 (by decide) (by rw [lv_osw c1 (by decide), lv_osw c2 (by decide), lv_osw c3 (by decide), lv_osw c4 (by decide)] <;> rfl) (by decide) ?_
          refine j_aload_n C d_SR_take_72 0 rfl ?_
          refine j_iload_n C d_SR_take_73 1 rfl ?_
          refine j_iload_n C d_SR_take_74 2 rfl ?_
          refine j_iload_n C d_SR_take_75 3 rfl ?_
          refine j_bind rfl (fun q13 e12 => ?_)
          refine j_callVi C mv_SR_162 [.int x1, .int x2, .int x3] [] h0k (c_SR_takeNote h0k x1 x2 x3 σ e12) rfl rfl (by decide) (Nat.le_of_ble_eq_true rfl) d_SR_take_76 ?_
          exact j_ireti C (fun ρ h => leaf_eq h) d_SR_take_79
theorem c_SR_take {l : Launch} {D : va_G} {G : GC} {ad : Nat → Nat} {k0 : Nat} (h0k : Is k0 9) (x1 : Int32) (x2 : Int32) (x3 : Int32) (σ : Mem) {q : Int32 × Mem} (hq : f_SR_take k0 x1 x2 x3 σ = some q) : Ctr l D G ad ⟨"LineFrames$StreamReader", "take", "(III)I"⟩ prog_10_method_12_code 4 (some .int) 4 94 [.ref (ad k0), .int x1, .int x2, .int x3] σ (.inl (some (.int q.1)), q.2) := ctr_J (cv := (cvO cvIM)) (E := f_SR_take k0 x1 x2 x3 σ) (by decide +kernel) (Nat.le_of_ble_eq_true rfl) (by rw [hq]; rfl) (fun F h C => by subst h; exact w_SR_take C h0k x1 x2 x3 σ)
/-! LineFrames$Model steps (I)I -/
theorem d_MD_steps_0 : decode prog_6_method_8_code 0 = .ok (.aload_n 0, 1) := by decide +kernel
theorem d_MD_steps_1 : decode prog_6_method_8_code 1 = .ok (.getfield 30, 3) := by decide +kernel
theorem d_MD_steps_4 : decode prog_6_method_8_code 4 = .ok (.ifCond .le 12, 3) := by decide +kernel
theorem d_MD_steps_7 : decode prog_6_method_8_code 7 = .ok (.iload_n 1, 1) := by decide +kernel
theorem d_MD_steps_8 : decode prog_6_method_8_code 8 = .ok (.aload_n 0, 1) := by decide +kernel
theorem d_MD_steps_9 : decode prog_6_method_8_code 9 = .ok (.getfield 30, 3) := by decide +kernel
theorem d_MD_steps_12 : decode prog_6_method_8_code 12 = .ok (.idiv, 1) := by decide +kernel
theorem d_MD_steps_13 : decode prog_6_method_8_code 13 = .ok (.goto 4, 3) := by decide +kernel
theorem d_MD_steps_16 : decode prog_6_method_8_code 16 = .ok (.iconst 0, 1) := by decide +kernel
theorem d_MD_steps_17 : decode prog_6_method_8_code 17 = .ok (.ireturn, 1) := by decide +kernel
def f_MD_steps (k0 : Nat) (x1 : Int32) (σ : Mem) : Int32 :=
  (if (σ k0 5) ≤ 0 then (0 : Int32) else (x1 / (σ k0 5)))
set_option maxHeartbeats 4000000 in
set_option maxRecDepth 100000 in
theorem w_MD_steps {F : Fx} (C : Ctx F prog_6_method_8_code 2 "LineFrames$Model" (some .int) 0 0) {k0 : Nat} (h0k : Is k0 5) (x1 : Int32) (σ : Mem) : J F 2 (cvI σ) (f_MD_steps k0 x1 σ) σ 0 [(0, .ref (fad F k0)), (1, .int x1)] [] := by
  unfold f_MD_steps
  refine j_aload_n C d_MD_steps_0 0 rfl ?_
  refine j_getI C h0k fl_MD_30 rfl d_MD_steps_1 ?_
  refine d_if_le (a := (0 : Int32)) (b := (x1 / (σ k0 5))) (jp := 17) (tgt := 16) C d_MD_steps_4 (by decide) (fun c1 k2 => ?_) (fun c1 k2 => ?_) ?_
  · refine j_iconst (v := (0 : Int32)) C d_MD_steps_16 (by decide) ?_
    exact k2
  · refine j_iload_n C d_MD_steps_7 1 rfl ?_
    refine j_aload_n C d_MD_steps_8 0 rfl ?_
    refine j_getI C h0k fl_MD_30 rfl d_MD_steps_9 ?_
    refine j_idiv C d_MD_steps_12 (ne_pos c1) ?_
    refine j_goto (tgt := 17) C d_MD_steps_13 (by decide) ?_
    exact k2
  exact j_ireti C (fun ρ h => leaf_eq h) d_MD_steps_17
theorem c_MD_steps {l : Launch} {D : va_G} {G : GC} {ad : Nat → Nat} {k0 : Nat} (h0k : Is k0 5) (x1 : Int32) (σ : Mem) : Ctr l D G ad ⟨"LineFrames$Model", "steps", "(I)I"⟩ prog_6_method_8_code 2 (some .int) 0 0 [.ref (ad k0), .int x1] σ (.inl (some (.int (f_MD_steps k0 x1 σ))), σ) := ctr_J (cv := (cvI σ)) (E := f_MD_steps k0 x1 σ) (by decide +kernel) (Nat.le_of_ble_eq_true rfl) rfl (fun F h C => by subst h; exact w_MD_steps C h0k x1 σ)
/-! LineFrames$Model renew ()V -/
theorem d_MD_renew_0 : decode prog_6_method_3_code 0 = .ok (.aload_n 0, 1) := by decide +kernel
theorem d_MD_renew_1 : decode prog_6_method_3_code 1 = .ok (.getfield 14, 3) := by decide +kernel
theorem d_MD_renew_4 : decode prog_6_method_3_code 4 = .ok (.aload_n 0, 1) := by decide +kernel
theorem d_MD_renew_5 : decode prog_6_method_3_code 5 = .ok (.getfield 39, 3) := by decide +kernel
theorem d_MD_renew_8 : decode prog_6_method_3_code 8 = .ok (.invokevirtual 63, 3) := by decide +kernel
theorem d_MD_renew_11 : decode prog_6_method_3_code 11 = .ok (.aload_n 0, 1) := by decide +kernel
theorem d_MD_renew_12 : decode prog_6_method_3_code 12 = .ok (.getfield 20, 3) := by decide +kernel
theorem d_MD_renew_15 : decode prog_6_method_3_code 15 = .ok (.iconst 1, 1) := by decide +kernel
theorem d_MD_renew_16 : decode prog_6_method_3_code 16 = .ok (.invokevirtual 63, 3) := by decide +kernel
theorem d_MD_renew_19 : decode prog_6_method_3_code 19 = .ok (.return_, 1) := by decide +kernel
def f_MD_renew (k0 : Nat) (σ : Mem) : Option (Mem) :=
  (f_RO_fill (wtg k0 1) (σ k0 8) σ).bind fun σ2 =>
  (f_RO_fill (wtg k0 2) (1 : Int32) σ2).bind fun σ4 =>
  some (σ4)
set_option maxHeartbeats 4000000 in
set_option maxRecDepth 100000 in
theorem w_MD_renew {F : Fx} (C : Ctx F prog_6_method_3_code 1 "LineFrames$Model" none 1 22) {k0 : Nat} (h0k : Is k0 5) (σ : Mem) : J F 1 (cvO cvM) (f_MD_renew k0 σ) σ 0 [(0, .ref (fad F k0))] [] := by
  unfold f_MD_renew
  refine j_aload_n C d_MD_renew_0 0 rfl ?_
  refine j_getR C h0k fl_MD_14 rfl d_MD_renew_1 ?_
  refine j_aload_n C d_MD_renew_4 0 rfl ?_
  refine j_getI C h0k fl_MD_39 rfl d_MD_renew_5 ?_
  refine j_bind rfl (fun σ2 e1 => ?_)
  refine j_callVv C mv_MD_63 [.int (σ k0 8)] [] (tg_5_1 _ h0k) (c_RO_fill (tg_5_1 _ h0k) (σ k0 8) σ e1) rfl rfl (by decide) (Nat.le_of_ble_eq_true rfl) d_MD_renew_8 ?_
  refine j_aload_n C d_MD_renew_11 0 rfl ?_
  refine j_getR C h0k fl_MD_20 rfl d_MD_renew_12 ?_
  refine j_iconst (v := (1 : Int32)) C d_MD_renew_15 (by decide) ?_
  refine j_bind rfl (fun σ4 e3 => ?_)
  refine j_callVv C mv_MD_63 [.int (1 : Int32)] [] (tg_5_2 _ h0k) (c_RO_fill (tg_5_2 _ h0k) (1 : Int32) σ2 e3) rfl rfl (by decide) (Nat.le_of_ble_eq_true rfl) d_MD_renew_16 ?_
  exact j_vret C (fun ρ h => leaf_eq h) d_MD_renew_19
theorem c_MD_renew {l : Launch} {D : va_G} {G : GC} {ad : Nat → Nat} {k0 : Nat} (h0k : Is k0 5) (σ : Mem) {q : Mem} (hq : f_MD_renew k0 σ = some q) : Ctr l D G ad ⟨"LineFrames$Model", "renew", "()V"⟩ prog_6_method_3_code 1 none 1 22 [.ref (ad k0)] σ (.inl none, q) := ctr_J (cv := (cvO cvM)) (E := f_MD_renew k0 σ) (by decide +kernel) (Nat.le_of_ble_eq_true rfl) (by rw [hq]; rfl) (fun F h C => by subst h; exact w_MD_renew C h0k σ)
/-! LineFrames$Model begin (LLineFrames$Picture;I)V -/
theorem d_MD_begin_0 : decode prog_6_method_2_code 0 = .ok (.aload_n 0, 1) := by decide +kernel
theorem d_MD_begin_1 : decode prog_6_method_2_code 1 = .ok (.aload_n 1, 1) := by decide +kernel
theorem d_MD_begin_2 : decode prog_6_method_2_code 2 = .ok (.invokevirtual 45, 3) := by decide +kernel
theorem d_MD_begin_5 : decode prog_6_method_2_code 5 = .ok (.putfield 23, 3) := by decide +kernel
theorem d_MD_begin_8 : decode prog_6_method_2_code 8 = .ok (.aload_n 0, 1) := by decide +kernel
theorem d_MD_begin_9 : decode prog_6_method_2_code 9 = .ok (.iload_n 2, 1) := by decide +kernel
theorem d_MD_begin_10 : decode prog_6_method_2_code 10 = .ok (.putfield 27, 3) := by decide +kernel
theorem d_MD_begin_13 : decode prog_6_method_2_code 13 = .ok (.aload_n 0, 1) := by decide +kernel
theorem d_MD_begin_14 : decode prog_6_method_2_code 14 = .ok (.iconst 2, 1) := by decide +kernel
theorem d_MD_begin_15 : decode prog_6_method_2_code 15 = .ok (.aload_n 0, 1) := by decide +kernel
theorem d_MD_begin_16 : decode prog_6_method_2_code 16 = .ok (.getfield 27, 3) := by decide +kernel
theorem d_MD_begin_19 : decode prog_6_method_2_code 19 = .ok (.imul, 1) := by decide +kernel
theorem d_MD_begin_20 : decode prog_6_method_2_code 20 = .ok (.iconst 1, 1) := by decide +kernel
theorem d_MD_begin_21 : decode prog_6_method_2_code 21 = .ok (.iadd, 1) := by decide +kernel
theorem d_MD_begin_22 : decode prog_6_method_2_code 22 = .ok (.putfield 30, 3) := by decide +kernel
theorem d_MD_begin_25 : decode prog_6_method_2_code 25 = .ok (.aload_n 0, 1) := by decide +kernel
theorem d_MD_begin_26 : decode prog_6_method_2_code 26 = .ok (.aload_n 0, 1) := by decide +kernel
theorem d_MD_begin_27 : decode prog_6_method_2_code 27 = .ok (.aload_n 0, 1) := by decide +kernel
theorem d_MD_begin_28 : decode prog_6_method_2_code 28 = .ok (.getfield 23, 3) := by decide +kernel
theorem d_MD_begin_31 : decode prog_6_method_2_code 31 = .ok (.iconst 2, 1) := by decide +kernel
theorem d_MD_begin_32 : decode prog_6_method_2_code 32 = .ok (.aload_n 0, 1) := by decide +kernel
theorem d_MD_begin_33 : decode prog_6_method_2_code 33 = .ok (.getfield 27, 3) := by decide +kernel
theorem d_MD_begin_36 : decode prog_6_method_2_code 36 = .ok (.imul, 1) := by decide +kernel
theorem d_MD_begin_37 : decode prog_6_method_2_code 37 = .ok (.iadd, 1) := by decide +kernel
theorem d_MD_begin_38 : decode prog_6_method_2_code 38 = .ok (.invokevirtual 50, 3) := by decide +kernel
theorem d_MD_begin_41 : decode prog_6_method_2_code 41 = .ok (.iconst 1, 1) := by decide +kernel
theorem d_MD_begin_42 : decode prog_6_method_2_code 42 = .ok (.iadd, 1) := by decide +kernel
theorem d_MD_begin_43 : decode prog_6_method_2_code 43 = .ok (.putfield 33, 3) := by decide +kernel
theorem d_MD_begin_46 : decode prog_6_method_2_code 46 = .ok (.aload_n 0, 1) := by decide +kernel
theorem d_MD_begin_47 : decode prog_6_method_2_code 47 = .ok (.aload_n 1, 1) := by decide +kernel
theorem d_MD_begin_48 : decode prog_6_method_2_code 48 = .ok (.getfield 54, 3) := by decide +kernel
theorem d_MD_begin_51 : decode prog_6_method_2_code 51 = .ok (.iconst 0, 1) := by decide +kernel
theorem d_MD_begin_52 : decode prog_6_method_2_code 52 = .ok (.invokevirtual 57, 3) := by decide +kernel
theorem d_MD_begin_55 : decode prog_6_method_2_code 55 = .ok (.putfield 36, 3) := by decide +kernel
theorem d_MD_begin_58 : decode prog_6_method_2_code 58 = .ok (.aload_n 0, 1) := by decide +kernel
theorem d_MD_begin_59 : decode prog_6_method_2_code 59 = .ok (.aload_n 1, 1) := by decide +kernel
theorem d_MD_begin_60 : decode prog_6_method_2_code 60 = .ok (.getfield 54, 3) := by decide +kernel
theorem d_MD_begin_63 : decode prog_6_method_2_code 63 = .ok (.iconst 1, 1) := by decide +kernel
theorem d_MD_begin_64 : decode prog_6_method_2_code 64 = .ok (.invokevirtual 57, 3) := by decide +kernel
theorem d_MD_begin_67 : decode prog_6_method_2_code 67 = .ok (.putfield 39, 3) := by decide +kernel
theorem d_MD_begin_70 : decode prog_6_method_2_code 70 = .ok (.aload_n 0, 1) := by decide +kernel
theorem d_MD_begin_71 : decode prog_6_method_2_code 71 = .ok (.invokevirtual 60, 3) := by decide +kernel
theorem d_MD_begin_74 : decode prog_6_method_2_code 74 = .ok (.return_, 1) := by decide +kernel
def f_MD_begin (k0 : Nat) (k1 : Nat) (x2 : Int32) (σ : Mem) : Option (Mem) :=
  lt (mput σ k0 3 (f_PI_top k1 σ)) fun σ1 =>
  lt (mput σ1 k0 4 x2) fun σ2 =>
  lt (mput σ2 k0 5 (((2 : Int32) * (σ2 k0 4)) + (1 : Int32))) fun σ3 =>
  lt (mput σ3 k0 6 ((f_MD_steps k0 ((σ3 k0 3) + ((2 : Int32) * (σ3 k0 4))) σ3) + (1 : Int32))) fun σ4 =>
  lt (mput σ4 k0 7 (f_RO_get (wtg k1 1) (0 : Int32) σ4)) fun σ5 =>
  lt (mput σ5 k0 8 (f_RO_get (wtg k1 1) (1 : Int32) σ5)) fun σ6 =>
  (f_MD_renew k0 σ6).bind fun σ8 =>
  some (σ8)
set_option maxHeartbeats 4000000 in
set_option maxRecDepth 100000 in
theorem w_MD_begin {F : Fx} (C : Ctx F prog_6_method_2_code 3 "LineFrames$Model" none 2 42) {k0 : Nat} (h0k : Is k0 5) {k1 : Nat} (h1k : Is k1 7) (x2 : Int32) (σ : Mem) : J F 3 (cvO cvM) (f_MD_begin k0 k1 x2 σ) σ 0 [(0, .ref (fad F k0)), (1, .ref (fad F k1)), (2, .int x2)] [] := by
  unfold f_MD_begin
  refine j_aload_n C d_MD_begin_0 0 rfl ?_
  refine j_aload_n C d_MD_begin_1 1 rfl ?_
  refine j_callVi C mv_MD_45 [] [.ref (fad F k0)] h1k (c_PI_top h1k σ) rfl rfl (by decide) (Nat.le_of_ble_eq_true rfl) d_MD_begin_2 ?_
  refine j_put C h0k fl_MD_23 fw_5_3 rfl rfl rfl d_MD_begin_5 (fun σ1 => ?_)
  refine j_aload_n C d_MD_begin_8 0 rfl ?_
  refine j_iload_n C d_MD_begin_9 2 rfl ?_
  refine j_put C h0k fl_MD_27 fw_5_4 rfl rfl rfl d_MD_begin_10 (fun σ2 => ?_)
  refine j_aload_n C d_MD_begin_13 0 rfl ?_
  refine j_iconst (v := (2 : Int32)) C d_MD_begin_14 (by decide) ?_
  refine j_aload_n C d_MD_begin_15 0 rfl ?_
  refine j_getI C h0k fl_MD_27 rfl d_MD_begin_16 ?_
  refine j_imul C d_MD_begin_19 ?_
  refine j_iconst (v := (1 : Int32)) C d_MD_begin_20 (by decide) ?_
  refine j_iadd C d_MD_begin_21 ?_
  refine j_put C h0k fl_MD_30 fw_5_5 rfl rfl rfl d_MD_begin_22 (fun σ3 => ?_)
  refine j_aload_n C d_MD_begin_25 0 rfl ?_
  refine j_aload_n C d_MD_begin_26 0 rfl ?_
  refine j_aload_n C d_MD_begin_27 0 rfl ?_
  refine j_getI C h0k fl_MD_23 rfl d_MD_begin_28 ?_
  refine j_iconst (v := (2 : Int32)) C d_MD_begin_31 (by decide) ?_
  refine j_aload_n C d_MD_begin_32 0 rfl ?_
  refine j_getI C h0k fl_MD_27 rfl d_MD_begin_33 ?_
  refine j_imul C d_MD_begin_36 ?_
  refine j_iadd C d_MD_begin_37 ?_
  refine j_callVi C mv_MD_50 [.int ((σ3 k0 3) + ((2 : Int32) * (σ3 k0 4)))] [.ref (fad F k0)] h0k (c_MD_steps h0k ((σ3 k0 3) + ((2 : Int32) * (σ3 k0 4))) σ3) rfl rfl (by decide) (Nat.le_of_ble_eq_true rfl) d_MD_begin_38 ?_
  refine j_iconst (v := (1 : Int32)) C d_MD_begin_41 (by decide) ?_
  refine j_iadd C d_MD_begin_42 ?_
  refine j_put C h0k fl_MD_33 fw_5_6 rfl rfl rfl d_MD_begin_43 (fun σ4 => ?_)
  refine j_aload_n C d_MD_begin_46 0 rfl ?_
  refine j_aload_n C d_MD_begin_47 1 rfl ?_
  refine j_getR C h1k fl_MD_54 rfl d_MD_begin_48 ?_
  refine j_iconst (v := (0 : Int32)) C d_MD_begin_51 (by decide) ?_
  refine j_callVi C mv_MD_57 [.int (0 : Int32)] [.ref (fad F k0)] (tg_7_1 _ h1k) (c_RO_get (tg_7_1 _ h1k) (0 : Int32) σ4) rfl rfl (by decide) (Nat.le_of_ble_eq_true rfl) d_MD_begin_52 ?_
  refine j_put C h0k fl_MD_36 fw_5_7 rfl rfl rfl d_MD_begin_55 (fun σ5 => ?_)
  refine j_aload_n C d_MD_begin_58 0 rfl ?_
  refine j_aload_n C d_MD_begin_59 1 rfl ?_
  refine j_getR C h1k fl_MD_54 rfl d_MD_begin_60 ?_
  refine j_iconst (v := (1 : Int32)) C d_MD_begin_63 (by decide) ?_
  refine j_callVi C mv_MD_57 [.int (1 : Int32)] [.ref (fad F k0)] (tg_7_1 _ h1k) (c_RO_get (tg_7_1 _ h1k) (1 : Int32) σ5) rfl rfl (by decide) (Nat.le_of_ble_eq_true rfl) d_MD_begin_64 ?_
  refine j_put C h0k fl_MD_39 fw_5_8 rfl rfl rfl d_MD_begin_67 (fun σ6 => ?_)
  refine j_aload_n C d_MD_begin_70 0 rfl ?_
  refine j_bind rfl (fun σ8 e7 => ?_)
  refine j_callVv C mv_MD_60 [] [] h0k (c_MD_renew h0k σ6 e7) rfl rfl (by decide) (Nat.le_of_ble_eq_true rfl) d_MD_begin_71 ?_
  exact j_vret C (fun ρ h => leaf_eq h) d_MD_begin_74
theorem c_MD_begin {l : Launch} {D : va_G} {G : GC} {ad : Nat → Nat} {k0 : Nat} (h0k : Is k0 5) {k1 : Nat} (h1k : Is k1 7) (x2 : Int32) (σ : Mem) {q : Mem} (hq : f_MD_begin k0 k1 x2 σ = some q) : Ctr l D G ad ⟨"LineFrames$Model", "begin", "(LLineFrames$Picture;I)V"⟩ prog_6_method_2_code 3 none 2 42 [.ref (ad k0), .ref (ad k1), .int x2] σ (.inl none, q) := ctr_J (cv := (cvO cvM)) (E := f_MD_begin k0 k1 x2 σ) (by decide +kernel) (Nat.le_of_ble_eq_true rfl) (by rw [hq]; rfl) (fun F h C => by subst h; exact w_MD_begin C h0k h1k x2 σ)
/-! LineFrames$BitSource begin (I)V -/
theorem d_BO_begin_0 : decode prog_3_method_2_code 0 = .ok (.aload_n 0, 1) := by decide +kernel
theorem d_BO_begin_1 : decode prog_3_method_2_code 1 = .ok (.iload_n 1, 1) := by decide +kernel
theorem d_BO_begin_2 : decode prog_3_method_2_code 2 = .ok (.putfield 9, 3) := by decide +kernel
theorem d_BO_begin_5 : decode prog_3_method_2_code 5 = .ok (.aload_n 0, 1) := by decide +kernel
theorem d_BO_begin_6 : decode prog_3_method_2_code 6 = .ok (.iconst 0, 1) := by decide +kernel
theorem d_BO_begin_7 : decode prog_3_method_2_code 7 = .ok (.putfield 15, 3) := by decide +kernel
theorem d_BO_begin_10 : decode prog_3_method_2_code 10 = .ok (.aload_n 0, 1) := by decide +kernel
theorem d_BO_begin_11 : decode prog_3_method_2_code 11 = .ok (.iconst 0, 1) := by decide +kernel
theorem d_BO_begin_12 : decode prog_3_method_2_code 12 = .ok (.putfield 18, 3) := by decide +kernel
theorem d_BO_begin_15 : decode prog_3_method_2_code 15 = .ok (.return_, 1) := by decide +kernel
def f_BO_begin (k0 : Nat) (x1 : Int32) (σ : Mem) : Mem :=
  lt (mput σ k0 2 x1) fun σ1 =>
  lt (mput σ1 k0 3 (0 : Int32)) fun σ2 =>
  lt (mput σ2 k0 4 (0 : Int32)) fun σ3 =>
  σ3
set_option maxHeartbeats 4000000 in
set_option maxRecDepth 100000 in
theorem w_BO_begin {F : Fx} (C : Ctx F prog_3_method_2_code 2 "LineFrames$BitSource" none 0 0) {k0 : Nat} (h0k : Is k0 2) (x1 : Int32) (σ : Mem) : J F 2 cvM (f_BO_begin k0 x1 σ) σ 0 [(0, .ref (fad F k0)), (1, .int x1)] [] := by
  unfold f_BO_begin
  refine j_aload_n C d_BO_begin_0 0 rfl ?_
  refine j_iload_n C d_BO_begin_1 1 rfl ?_
  refine j_put C h0k fl_BO_9 fw_2_2 rfl rfl rfl d_BO_begin_2 (fun σ1 => ?_)
  refine j_aload_n C d_BO_begin_5 0 rfl ?_
  refine j_iconst (v := (0 : Int32)) C d_BO_begin_6 (by decide) ?_
  refine j_put C h0k fl_BO_15 fw_2_3 rfl rfl rfl d_BO_begin_7 (fun σ2 => ?_)
  refine j_aload_n C d_BO_begin_10 0 rfl ?_
  refine j_iconst (v := (0 : Int32)) C d_BO_begin_11 (by decide) ?_
  refine j_put C h0k fl_BO_18 fw_2_4 rfl rfl rfl d_BO_begin_12 (fun σ3 => ?_)
  exact j_vret C (fun ρ h => leaf_eq h) d_BO_begin_15
theorem c_BO_begin {l : Launch} {D : va_G} {G : GC} {ad : Nat → Nat} {k0 : Nat} (h0k : Is k0 2) (x1 : Int32) (σ : Mem) : Ctr l D G ad ⟨"LineFrames$BitSource", "begin", "(I)V"⟩ prog_3_method_2_code 2 none 0 0 [.ref (ad k0), .int x1] σ (.inl none, (f_BO_begin k0 x1 σ)) := ctr_J (cv := cvM) (E := f_BO_begin k0 x1 σ) (by decide +kernel) (Nat.le_of_ble_eq_true rfl) rfl (fun F h C => by subst h; exact w_BO_begin C h0k x1 σ)
