/-! LineFrames found (I)I -/
theorem d_LF_found_0 : decode prog_1_method_15_code 0 = .ok (.aload_n 0, 1) := by decide +kernel
theorem d_LF_found_1 : decode prog_1_method_15_code 1 = .ok (.invokevirtual 234, 3) := by decide +kernel
theorem d_LF_found_4 : decode prog_1_method_15_code 4 = .ok (.aload_n 0, 1) := by decide +kernel
theorem d_LF_found_5 : decode prog_1_method_15_code 5 = .ok (.getfield 53, 3) := by decide +kernel
theorem d_LF_found_8 : decode prog_1_method_15_code 8 = .ok (.getfield 219, 3) := by decide +kernel
theorem d_LF_found_11 : decode prog_1_method_15_code 11 = .ok (.astore_n 2, 1) := by decide +kernel
theorem d_LF_found_12 : decode prog_1_method_15_code 12 = .ok (.iload_n 1, 1) := by decide +kernel
theorem d_LF_found_13 : decode prog_1_method_15_code 13 = .ok (.tableswitch 126 0 9 #[55, 60, 65, 70, 75, 83, 91, 100, 109, 118], 55) := by decide +kernel
theorem d_LF_found_68 : decode prog_1_method_15_code 68 = .ok (.aload_n 2, 1) := by decide +kernel
theorem d_LF_found_69 : decode prog_1_method_15_code 69 = .ok (.getfield 237, 3) := by decide +kernel
theorem d_LF_found_72 : decode prog_1_method_15_code 72 = .ok (.ireturn, 1) := by decide +kernel
theorem d_LF_found_73 : decode prog_1_method_15_code 73 = .ok (.aload_n 2, 1) := by decide +kernel
theorem d_LF_found_74 : decode prog_1_method_15_code 74 = .ok (.getfield 240, 3) := by decide +kernel
theorem d_LF_found_77 : decode prog_1_method_15_code 77 = .ok (.ireturn, 1) := by decide +kernel
theorem d_LF_found_78 : decode prog_1_method_15_code 78 = .ok (.aload_n 2, 1) := by decide +kernel
theorem d_LF_found_79 : decode prog_1_method_15_code 79 = .ok (.getfield 243, 3) := by decide +kernel
theorem d_LF_found_82 : decode prog_1_method_15_code 82 = .ok (.ireturn, 1) := by decide +kernel
theorem d_LF_found_83 : decode prog_1_method_15_code 83 = .ok (.aload_n 2, 1) := by decide +kernel
theorem d_LF_found_84 : decode prog_1_method_15_code 84 = .ok (.getfield 222, 3) := by decide +kernel
theorem d_LF_found_87 : decode prog_1_method_15_code 87 = .ok (.ireturn, 1) := by decide +kernel
theorem d_LF_found_88 : decode prog_1_method_15_code 88 = .ok (.aload_n 0, 1) := by decide +kernel
theorem d_LF_found_89 : decode prog_1_method_15_code 89 = .ok (.getfield 53, 3) := by decide +kernel
theorem d_LF_found_92 : decode prog_1_method_15_code 92 = .ok (.getfield 246, 3) := by decide +kernel
theorem d_LF_found_95 : decode prog_1_method_15_code 95 = .ok (.ireturn, 1) := by decide +kernel
theorem d_LF_found_96 : decode prog_1_method_15_code 96 = .ok (.aload_n 0, 1) := by decide +kernel
theorem d_LF_found_97 : decode prog_1_method_15_code 97 = .ok (.getfield 53, 3) := by decide +kernel
theorem d_LF_found_100 : decode prog_1_method_15_code 100 = .ok (.getfield 249, 3) := by decide +kernel
theorem d_LF_found_103 : decode prog_1_method_15_code 103 = .ok (.ireturn, 1) := by decide +kernel
theorem d_LF_found_104 : decode prog_1_method_15_code 104 = .ok (.aload_n 2, 1) := by decide +kernel
theorem d_LF_found_105 : decode prog_1_method_15_code 105 = .ok (.getfield 117, 3) := by decide +kernel
theorem d_LF_found_108 : decode prog_1_method_15_code 108 = .ok (.iconst 0, 1) := by decide +kernel
theorem d_LF_found_109 : decode prog_1_method_15_code 109 = .ok (.invokevirtual 101, 3) := by decide +kernel
theorem d_LF_found_112 : decode prog_1_method_15_code 112 = .ok (.ireturn, 1) := by decide +kernel
theorem d_LF_found_113 : decode prog_1_method_15_code 113 = .ok (.aload_n 2, 1) := by decide +kernel
theorem d_LF_found_114 : decode prog_1_method_15_code 114 = .ok (.getfield 117, 3) := by decide +kernel
theorem d_LF_found_117 : decode prog_1_method_15_code 117 = .ok (.iconst 1, 1) := by decide +kernel
theorem d_LF_found_118 : decode prog_1_method_15_code 118 = .ok (.invokevirtual 101, 3) := by decide +kernel
theorem d_LF_found_121 : decode prog_1_method_15_code 121 = .ok (.ireturn, 1) := by decide +kernel
theorem d_LF_found_122 : decode prog_1_method_15_code 122 = .ok (.aload_n 2, 1) := by decide +kernel
theorem d_LF_found_123 : decode prog_1_method_15_code 123 = .ok (.getfield 117, 3) := by decide +kernel
theorem d_LF_found_126 : decode prog_1_method_15_code 126 = .ok (.iconst 2, 1) := by decide +kernel
theorem d_LF_found_127 : decode prog_1_method_15_code 127 = .ok (.invokevirtual 101, 3) := by decide +kernel
theorem d_LF_found_130 : decode prog_1_method_15_code 130 = .ok (.ireturn, 1) := by decide +kernel
theorem d_LF_found_131 : decode prog_1_method_15_code 131 = .ok (.aload_n 2, 1) := by decide +kernel
theorem d_LF_found_132 : decode prog_1_method_15_code 132 = .ok (.getfield 144, 3) := by decide +kernel
theorem d_LF_found_135 : decode prog_1_method_15_code 135 = .ok (.invokevirtual 250, 3) := by decide +kernel
theorem d_LF_found_138 : decode prog_1_method_15_code 138 = .ok (.ireturn, 1) := by decide +kernel
theorem d_LF_found_139 : decode prog_1_method_15_code 139 = .ok (.iconst (-1), 1) := by decide +kernel
theorem d_LF_found_140 : decode prog_1_method_15_code 140 = .ok (.ireturn, 1) := by decide +kernel
def f_LF_found (k0 : Nat) (x1 : Int32) (σ : Mem) : (Int32 ⊕ Nat) :=
  xcase (f_LF_wantReading k0 σ) (fun _ =>
  if x1 = 0 then
  (.inl (σ (wtg (wtg k0 5) 1) 5))
  else
  if x1 = 1 then
  (.inl (σ (wtg (wtg k0 5) 1) 6))
  else
  if x1 = 2 then
  (.inl (σ (wtg (wtg k0 5) 1) 7))
  else
  if x1 = 3 then
  (.inl (σ (wtg (wtg k0 5) 1) 8))
  else
  if x1 = 4 then
  (.inl (σ (wtg k0 5) 10))
  else
  if x1 = 5 then
  (.inl (σ (wtg k0 5) 11))
  else
  if x1 = 6 then
  (.inl (f_RO_get (wtg (wtg (wtg k0 5) 1) 1) (0 : Int32) σ))
  else
  if x1 = 7 then
  (.inl (f_RO_get (wtg (wtg (wtg k0 5) 1) 1) (1 : Int32) σ))
  else
  if x1 = 8 then
  (.inl (f_RO_get (wtg (wtg (wtg k0 5) 1) 1) (2 : Int32) σ))
  else
  if x1 = 9 then
  (.inl (f_NO_count (wtg (wtg (wtg k0 5) 1) 4) σ))
  else
  (.inl (-1 : Int32))) (fun n => (.inr n))
set_option maxHeartbeats 4000000 in
set_option maxRecDepth 100000 in
theorem w_LF_found {F : Fx} (C : Ctx F prog_1_method_15_code 3 "LineFrames" (some .int) 7 110) {k0 : Nat} (h0k : Is k0 0) (x1 : Int32) (σ : Mem) : J F 3 (cvXI σ) (f_LF_found k0 x1 σ) σ 0 [(0, .ref (fad F k0)), (1, .int x1)] [] := by
  unfold f_LF_found
  refine j_aload_n C d_LF_found_0 0 rfl ?_
  refine j_xcase (fun _ e1 => ?_) (fun n e1 => ?_)
  · refine j_callVv C mv_LF_234 [] [] h0k (ctr_xl e1 (c_LF_wantReading h0k σ)) rfl rfl (by decide) (Nat.le_of_ble_eq_true rfl) d_LF_found_1 ?_
    refine j_aload_n C d_LF_found_4 0 rfl ?_
    refine j_getR C h0k fl_LF_53 rfl d_LF_found_5 ?_
    refine j_getR C (tg_0_5 _ h0k) fl_LF_219 rfl d_LF_found_8 ?_
    refine j_astore_n (lv9 := [(0, .ref (fad F k0)), (1, .int x1), (2, .ref (fad F (wtg (wtg k0 5) 1)))]) C d_LF_found_11 rfl rfl (by decide) ?_
    refine j_iload_n C d_LF_found_12 1 rfl ?_
    refine j_case (fun c2 => ?_) (fun c2 => ?_)
    · refine j_tin (x := x1) (k := 0) (off := 55) (tgt := 68) C d_LF_found_13 c2 (by decide) (by decide) (by decide) (by decide) ?_
      refine j_aload_n C d_LF_found_68 2 rfl ?_
      refine j_getI C (tg_9_1 _ (tg_0_5 _ h0k)) fl_LF_237 rfl d_LF_found_69 ?_
      exact j_ireti C (fun ρ h => leaf_eq h) d_LF_found_72
    · refine j_case (fun c3 => ?_) (fun c3 => ?_)
      · refine j_tin (x := x1) (k := 1) (off := 60) (tgt := 73) C d_LF_found_13 c3 (by decide) (by decide) (by decide) (by decide) ?_
        refine j_aload_n C d_LF_found_73 2 rfl ?_
        refine j_getI C (tg_9_1 _ (tg_0_5 _ h0k)) fl_LF_240 rfl d_LF_found_74 ?_
        exact j_ireti C (fun ρ h => leaf_eq h) d_LF_found_77
      · refine j_case (fun c4 => ?_) (fun c4 => ?_)
        · refine j_tin (x := x1) (k := 2) (off := 65) (tgt := 78) C d_LF_found_13 c4 (by decide) (by decide) (by decide) (by decide) ?_
          refine j_aload_n C d_LF_found_78 2 rfl ?_
          refine j_getI C (tg_9_1 _ (tg_0_5 _ h0k)) fl_LF_243 rfl d_LF_found_79 ?_
          exact j_ireti C (fun ρ h => leaf_eq h) d_LF_found_82
        · refine j_case (fun c5 => ?_) (fun c5 => ?_)
          · refine j_tin (x := x1) (k := 3) (off := 70) (tgt := 83) C d_LF_found_13 c5 (by decide) (by decide) (by decide) (by decide) ?_
            refine j_aload_n C d_LF_found_83 2 rfl ?_
            refine j_getI C (tg_9_1 _ (tg_0_5 _ h0k)) fl_LF_222 rfl d_LF_found_84 ?_
            exact j_ireti C (fun ρ h => leaf_eq h) d_LF_found_87
          · refine j_case (fun c6 => ?_) (fun c6 => ?_)
            · refine j_tin (x := x1) (k := 4) (off := 75) (tgt := 88) C d_LF_found_13 c6 (by decide) (by decide) (by decide) (by decide) ?_
              refine j_aload_n C d_LF_found_88 0 rfl ?_
              refine j_getR C h0k fl_LF_53 rfl d_LF_found_89 ?_
              refine j_getI C (tg_0_5 _ h0k) fl_LF_246 rfl d_LF_found_92 ?_
              exact j_ireti C (fun ρ h => leaf_eq h) d_LF_found_95
            · refine j_case (fun c7 => ?_) (fun c7 => ?_)
              · refine j_tin (x := x1) (k := 5) (off := 83) (tgt := 96) C d_LF_found_13 c7 (by decide) (by decide) (by decide) (by decide) ?_
                refine j_aload_n C d_LF_found_96 0 rfl ?_
                refine j_getR C h0k fl_LF_53 rfl d_LF_found_97 ?_
                refine j_getI C (tg_0_5 _ h0k) fl_LF_249 rfl d_LF_found_100 ?_
                exact j_ireti C (fun ρ h => leaf_eq h) d_LF_found_103
              · refine j_case (fun c8 => ?_) (fun c8 => ?_)
                · refine j_tin (x := x1) (k := 6) (off := 91) (tgt := 104) C d_LF_found_13 c8 (by decide) (by decide) (by decide) (by decide) ?_
                  refine j_aload_n C d_LF_found_104 2 rfl ?_
                  refine j_getR C (tg_9_1 _ (tg_0_5 _ h0k)) fl_LF_117 rfl d_LF_found_105 ?_
                  refine j_iconst (v := (0 : Int32)) C d_LF_found_108 (by decide) ?_
                  refine j_callVi C mv_LF_101 [.int (0 : Int32)] [] (tg_7_1 _ (tg_9_1 _ (tg_0_5 _ h0k))) (c_RO_get (tg_7_1 _ (tg_9_1 _ (tg_0_5 _ h0k))) (0 : Int32) σ) rfl rfl (by decide) (Nat.le_of_ble_eq_true rfl) d_LF_found_109 ?_
                  exact j_ireti C (fun ρ h => leaf_eq h) d_LF_found_112
                · refine j_case (fun c9 => ?_) (fun c9 => ?_)
                  · refine j_tin (x := x1) (k := 7) (off := 100) (tgt := 113) C d_LF_found_13 c9 (by decide) (by decide) (by decide) (by decide) ?_
                    refine j_aload_n C d_LF_found_113 2 rfl ?_
                    refine j_getR C (tg_9_1 _ (tg_0_5 _ h0k)) fl_LF_117 rfl d_LF_found_114 ?_
                    refine j_iconst (v := (1 : Int32)) C d_LF_found_117 (by decide) ?_
                    refine j_callVi C mv_LF_101 [.int (1 : Int32)] [] (tg_7_1 _ (tg_9_1 _ (tg_0_5 _ h0k))) (c_RO_get (tg_7_1 _ (tg_9_1 _ (tg_0_5 _ h0k))) (1 : Int32) σ) rfl rfl (by decide) (Nat.le_of_ble_eq_true rfl) d_LF_found_118 ?_
                    exact j_ireti C (fun ρ h => leaf_eq h) d_LF_found_121
                  · refine j_case (fun c10 => ?_) (fun c10 => ?_)
                    · refine j_tin (x := x1) (k := 8) (off := 109) (tgt := 122) C d_LF_found_13 c10 (by decide) (by decide) (by decide) (by decide) ?_
                      refine j_aload_n C d_LF_found_122 2 rfl ?_
                      refine j_getR C (tg_9_1 _ (tg_0_5 _ h0k)) fl_LF_117 rfl d_LF_found_123 ?_
                      refine j_iconst (v := (2 : Int32)) C d_LF_found_126 (by decide) ?_
                      refine j_callVi C mv_LF_101 [.int (2 : Int32)] [] (tg_7_1 _ (tg_9_1 _ (tg_0_5 _ h0k))) (c_RO_get (tg_7_1 _ (tg_9_1 _ (tg_0_5 _ h0k))) (2 : Int32) σ) rfl rfl (by decide) (Nat.le_of_ble_eq_true rfl) d_LF_found_127 ?_
                      exact j_ireti C (fun ρ h => leaf_eq h) d_LF_found_130
                    · refine j_case (fun c11 => ?_) (fun c11 => ?_)
                      · refine j_tin (x := x1) (k := 9) (off := 118) (tgt := 131) C d_LF_found_13 c11 (by decide) (by decide) (by decide) (by decide) ?_
                        refine j_aload_n C d_LF_found_131 2 rfl ?_
                        refine j_getR C (tg_9_1 _ (tg_0_5 _ h0k)) fl_LF_144 rfl d_LF_found_132 ?_
                        refine j_callVi C mv_LF_250 [] [] (tg_7_4 _ (tg_9_1 _ (tg_0_5 _ h0k))) (c_NO_count (tg_7_4 _ (tg_9_1 _ (tg_0_5 _ h0k))) σ) rfl rfl (by decide) (Nat.le_of_ble_eq_true rfl) d_LF_found_135 ?_
                        exact j_ireti C (fun ρ h => leaf_eq h) d_LF_found_138
                      · refine j_tout (tgt := 139) C d_LF_found_13 (by decide) (sw_out10 c2 c3 c4 c5 c6 c7 c8 c9 c10 c11) ?_
                        refine j_iconst (v := (-1 : Int32)) C d_LF_found_139 (by decide) ?_
                        exact j_ireti C (fun ρ h => leaf_eq h) d_LF_found_140
  · refine j_callVx C mv_LF_234 [] [] h0k (ctr_xr e1 (c_LF_wantReading h0k σ)) rfl rfl (by decide) (Nat.le_of_ble_eq_true rfl) d_LF_found_1 (fun ρ h => leaf_eq h)
theorem c_LF_found {l : Launch} {D : va_G} {G : GC} {ad : Nat → Nat} {k0 : Nat} (h0k : Is k0 0) (x1 : Int32) (σ : Mem) : Ctr l D G ad ⟨"LineFrames", "found", "(I)I"⟩ prog_1_method_15_code 3 (some .int) 7 110 [.ref (ad k0), .int x1] σ (xrI (f_LF_found k0 x1 σ) σ) := ctr_J (cv := (cvXI σ)) (E := f_LF_found k0 x1 σ) (by decide +kernel) (Nat.le_of_ble_eq_true rfl) (xrI_ok _ _) (fun F h C => by subst h; exact w_LF_found C h0k x1 σ)
/-! LineFrames noteAt (II)I -/
theorem d_LF_noteAt_0 : decode prog_1_method_16_code 0 = .ok (.aload_n 0, 1) := by decide +kernel
theorem d_LF_noteAt_1 : decode prog_1_method_16_code 1 = .ok (.invokevirtual 234, 3) := by decide +kernel
theorem d_LF_noteAt_4 : decode prog_1_method_16_code 4 = .ok (.aload_n 0, 1) := by decide +kernel
theorem d_LF_noteAt_5 : decode prog_1_method_16_code 5 = .ok (.getfield 53, 3) := by decide +kernel
theorem d_LF_noteAt_8 : decode prog_1_method_16_code 8 = .ok (.getfield 219, 3) := by decide +kernel
theorem d_LF_noteAt_11 : decode prog_1_method_16_code 11 = .ok (.getfield 144, 3) := by decide +kernel
theorem d_LF_noteAt_14 : decode prog_1_method_16_code 14 = .ok (.astore_n 3, 1) := by decide +kernel
theorem d_LF_noteAt_15 : decode prog_1_method_16_code 15 = .ok (.aload_n 3, 1) := by decide +kernel
theorem d_LF_noteAt_16 : decode prog_1_method_16_code 16 = .ok (.iload_n 1, 1) := by decide +kernel
theorem d_LF_noteAt_17 : decode prog_1_method_16_code 17 = .ok (.invokevirtual 162, 3) := by decide +kernel
theorem d_LF_noteAt_20 : decode prog_1_method_16_code 20 = .ok (.ifCond .eq 17, 3) := by decide +kernel
theorem d_LF_noteAt_23 : decode prog_1_method_16_code 23 = .ok (.iload_n 2, 1) := by decide +kernel
theorem d_LF_noteAt_24 : decode prog_1_method_16_code 24 = .ok (.iconst (-1), 1) := by decide +kernel
theorem d_LF_noteAt_25 : decode prog_1_method_16_code 25 = .ok (.if_icmp .lt 12, 3) := by decide +kernel
theorem d_LF_noteAt_28 : decode prog_1_method_16_code 28 = .ok (.iload_n 2, 1) := by decide +kernel
theorem d_LF_noteAt_29 : decode prog_1_method_16_code 29 = .ok (.aload_n 3, 1) := by decide +kernel
theorem d_LF_noteAt_30 : decode prog_1_method_16_code 30 = .ok (.iload_n 1, 1) := by decide +kernel
theorem d_LF_noteAt_31 : decode prog_1_method_16_code 31 = .ok (.invokevirtual 170, 3) := by decide +kernel
theorem d_LF_noteAt_34 : decode prog_1_method_16_code 34 = .ok (.if_icmp .lt 13, 3) := by decide +kernel
theorem d_LF_noteAt_37 : decode prog_1_method_16_code 37 = .ok (.new 82, 3) := by decide +kernel
theorem d_LF_noteAt_40 : decode prog_1_method_16_code 40 = .ok (.dup, 1) := by decide +kernel
theorem d_LF_noteAt_41 : decode prog_1_method_16_code 41 = .ok (.ldc 253, 2) := by decide +kernel
theorem d_LF_noteAt_43 : decode prog_1_method_16_code 43 = .ok (.invokespecial 86, 3) := by decide +kernel
theorem d_LF_noteAt_46 : decode prog_1_method_16_code 46 = .ok (.athrow, 1) := by decide +kernel
theorem d_LF_noteAt_47 : decode prog_1_method_16_code 47 = .ok (.iload_n 2, 1) := by decide +kernel
theorem d_LF_noteAt_48 : decode prog_1_method_16_code 48 = .ok (.iconst (-1), 1) := by decide +kernel
theorem d_LF_noteAt_49 : decode prog_1_method_16_code 49 = .ok (.if_icmp .ne 11, 3) := by decide +kernel
theorem d_LF_noteAt_52 : decode prog_1_method_16_code 52 = .ok (.aload_n 3, 1) := by decide +kernel
theorem d_LF_noteAt_53 : decode prog_1_method_16_code 53 = .ok (.iload_n 1, 1) := by decide +kernel
theorem d_LF_noteAt_54 : decode prog_1_method_16_code 54 = .ok (.invokevirtual 255, 3) := by decide +kernel
theorem d_LF_noteAt_57 : decode prog_1_method_16_code 57 = .ok (.goto 9, 3) := by decide +kernel
theorem d_LF_noteAt_60 : decode prog_1_method_16_code 60 = .ok (.aload_n 3, 1) := by decide +kernel
theorem d_LF_noteAt_61 : decode prog_1_method_16_code 61 = .ok (.iload_n 1, 1) := by decide +kernel
theorem d_LF_noteAt_62 : decode prog_1_method_16_code 62 = .ok (.iload_n 2, 1) := by decide +kernel
theorem d_LF_noteAt_63 : decode prog_1_method_16_code 63 = .ok (.invokevirtual 258, 3) := by decide +kernel
theorem d_LF_noteAt_66 : decode prog_1_method_16_code 66 = .ok (.ireturn, 1) := by decide +kernel
def f_LF_noteAt (k0 : Nat) (x1 : Int32) (x2 : Int32) (σ : Mem) : (Int32 ⊕ Nat) :=
  xcase (f_LF_wantReading k0 σ) (fun _ =>
  if (f_NO_has (wtg (wtg (wtg k0 5) 1) 4) x1 σ) = 0 then
  (.inr 2)
  else
  if x2 < (-1 : Int32) then
  (.inr 2)
  else
  if x2 < (f_NO_sizeOf (wtg (wtg (wtg k0 5) 1) 4) x1 σ) then
  (.inl (if x2 = (-1 : Int32) then (f_NO_kindOf (wtg (wtg (wtg k0 5) 1) 4) x1 σ) else (f_NO_byteIn (wtg (wtg (wtg k0 5) 1) 4) x1 x2 σ)))
  else
  (.inr 2)) (fun n => (.inr n))
set_option maxHeartbeats 4000000 in
set_option maxRecDepth 100000 in
theorem w_LF_noteAt {F : Fx} (C : Ctx F prog_1_method_16_code 4 "LineFrames" (some .int) 7 110) {k0 : Nat} (h0k : Is k0 0) (x1 : Int32) (x2 : Int32) (σ : Mem) : J F 4 (cvXI σ) (f_LF_noteAt k0 x1 x2 σ) σ 0 [(0, .ref (fad F k0)), (1, .int x1), (2, .int x2)] [] := by
  unfold f_LF_noteAt
  refine j_aload_n C d_LF_noteAt_0 0 rfl ?_
  refine j_xcase (fun _ e1 => ?_) (fun n e1 => ?_)
  · refine j_callVv C mv_LF_234 [] [] h0k (ctr_xl e1 (c_LF_wantReading h0k σ)) rfl rfl (by decide) (Nat.le_of_ble_eq_true rfl) d_LF_noteAt_1 ?_
    refine j_aload_n C d_LF_noteAt_4 0 rfl ?_
    refine j_getR C h0k fl_LF_53 rfl d_LF_noteAt_5 ?_
    refine j_getR C (tg_0_5 _ h0k) fl_LF_219 rfl d_LF_noteAt_8 ?_
    refine j_getR C (tg_9_1 _ (tg_0_5 _ h0k)) fl_LF_144 rfl d_LF_noteAt_11 ?_
    refine j_astore_n (lv9 := [(0, .ref (fad F k0)), (1, .int x1), (2, .int x2), (3, .ref (fad F (wtg (wtg (wtg k0 5) 1) 4)))]) C d_LF_noteAt_14 rfl rfl (by decide) ?_
    refine j_aload_n C d_LF_noteAt_15 3 rfl ?_
    refine j_iload_n C d_LF_noteAt_16 1 rfl ?_
    refine j_callVi C mv_LF_162 [.int x1] [] (tg_7_4 _ (tg_9_1 _ (tg_0_5 _ h0k))) (c_NO_has (tg_7_4 _ (tg_9_1 _ (tg_0_5 _ h0k))) x1 σ) rfl rfl (by decide) (Nat.le_of_ble_eq_true rfl) d_LF_noteAt_17 ?_
    refine j_if_eq (tgt := 37) C d_LF_noteAt_20 (by decide) (fun c12 => ?_) (fun c12 => ?_)
    · exact j_throw C ox_LF_82_86 (List.mem_of_getElem? (i := 19) rfl) (by decide) (Nat.le_of_ble_eq_true rfl) d_LF_noteAt_37 d_LF_noteAt_40 d_LF_noteAt_41 d_LF_noteAt_43 d_LF_noteAt_46 (fun ρ h => leaf_eq h)
    · refine j_iload_n C d_LF_noteAt_23 2 rfl ?_
      refine j_iconst (v := (-1 : Int32)) C d_LF_noteAt_24 (by decide) ?_
      refine j_icmp_lt (tgt := 37) C d_LF_noteAt_25 (by decide) (fun c23 => ?_) (fun c23 => ?_)
      · exact j_throw C ox_LF_82_86 (List.mem_of_getElem? (i := 19) rfl) (by decide) (Nat.le_of_ble_eq_true rfl) d_LF_noteAt_37 d_LF_noteAt_40 d_LF_noteAt_41 d_LF_noteAt_43 d_LF_noteAt_46 (fun ρ h => leaf_eq h)
      · refine j_iload_n C d_LF_noteAt_28 2 rfl ?_
        refine j_aload_n C d_LF_noteAt_29 3 rfl ?_
        refine j_iload_n C d_LF_noteAt_30 1 rfl ?_
        refine j_callVi C mv_LF_170 [.int x1] [.int x2] (tg_7_4 _ (tg_9_1 _ (tg_0_5 _ h0k))) (c_NO_sizeOf (tg_7_4 _ (tg_9_1 _ (tg_0_5 _ h0k))) x1 σ) rfl rfl (by decide) (Nat.le_of_ble_eq_true rfl) d_LF_noteAt_31 ?_
        refine j_icmp_lt (tgt := 47) C d_LF_noteAt_34 (by decide) (fun c24 => ?_) (fun c24 => ?_)
        · refine j_iload_n C d_LF_noteAt_47 2 rfl ?_
          refine j_iconst (v := (-1 : Int32)) C d_LF_noteAt_48 (by decide) ?_
          refine d_icmp_ne (a := (f_NO_kindOf (wtg (wtg (wtg k0 5) 1) 4) x1 σ)) (b := (f_NO_byteIn (wtg (wtg (wtg k0 5) 1) 4) x1 x2 σ)) (jp := 66) (tgt := 60) C d_LF_noteAt_49 (by decide) (fun c25 k26 => ?_) (fun c25 k26 => ?_) ?_
          · refine j_aload_n C d_LF_noteAt_60 3 rfl ?_
            refine j_iload_n C d_LF_noteAt_61 1 rfl ?_
            refine j_iload_n C d_LF_noteAt_62 2 rfl ?_
            refine j_callVi C mv_LF_258 [.int x1, .int x2] [] (tg_7_4 _ (tg_9_1 _ (tg_0_5 _ h0k))) (c_NO_byteIn (tg_7_4 _ (tg_9_1 _ (tg_0_5 _ h0k))) x1 x2 σ) rfl rfl (by decide) (Nat.le_of_ble_eq_true rfl) d_LF_noteAt_63 ?_
            exact k26
          · refine j_aload_n C d_LF_noteAt_52 3 rfl ?_
            refine j_iload_n C d_LF_noteAt_53 1 rfl ?_
            refine j_callVi C mv_LF_255 [.int x1] [] (tg_7_4 _ (tg_9_1 _ (tg_0_5 _ h0k))) (c_NO_kindOf (tg_7_4 _ (tg_9_1 _ (tg_0_5 _ h0k))) x1 σ) rfl rfl (by decide) (Nat.le_of_ble_eq_true rfl) d_LF_noteAt_54 ?_
            refine j_goto (tgt := 66) C d_LF_noteAt_57 (by decide) ?_
            exact k26
          exact j_ireti C (fun ρ h => leaf_eq h) d_LF_noteAt_66
        · exact j_throw C ox_LF_82_86 (List.mem_of_getElem? (i := 19) rfl) (by decide) (Nat.le_of_ble_eq_true rfl) d_LF_noteAt_37 d_LF_noteAt_40 d_LF_noteAt_41 d_LF_noteAt_43 d_LF_noteAt_46 (fun ρ h => leaf_eq h)
  · refine j_callVx C mv_LF_234 [] [] h0k (ctr_xr e1 (c_LF_wantReading h0k σ)) rfl rfl (by decide) (Nat.le_of_ble_eq_true rfl) d_LF_noteAt_1 (fun ρ h => leaf_eq h)
theorem c_LF_noteAt {l : Launch} {D : va_G} {G : GC} {ad : Nat → Nat} {k0 : Nat} (h0k : Is k0 0) (x1 : Int32) (x2 : Int32) (σ : Mem) : Ctr l D G ad ⟨"LineFrames", "noteAt", "(II)I"⟩ prog_1_method_16_code 4 (some .int) 7 110 [.ref (ad k0), .int x1, .int x2] σ (xrI (f_LF_noteAt k0 x1 x2 σ) σ) := ctr_J (cv := (cvXI σ)) (E := f_LF_noteAt k0 x1 x2 σ) (by decide +kernel) (Nat.le_of_ble_eq_true rfl) (xrI_ok _ _) (fun F h C => by subst h; exact w_LF_noteAt C h0k x1 x2 σ)
