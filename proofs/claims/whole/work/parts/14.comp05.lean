/-! LineFrames picture (IIII)I -/
theorem d_LF_picture_0 : decode prog_1_method_2_code 0 = .ok (.iload_n 1, 1) := by decide +kernel
theorem d_LF_picture_1 : decode prog_1_method_2_code 1 = .ok (.iload_n 2, 1) := by decide +kernel
theorem d_LF_picture_2 : decode prog_1_method_2_code 2 = .ok (.iload_n 3, 1) := by decide +kernel
theorem d_LF_picture_3 : decode prog_1_method_2_code 3 = .ok (.iload 4, 2) := by decide +kernel
theorem d_LF_picture_5 : decode prog_1_method_2_code 5 = .ok (.invokestatic 57, 3) := by decide +kernel
theorem d_LF_picture_8 : decode prog_1_method_2_code 8 = .ok (.ifCond .ne 13, 3) := by decide +kernel
theorem d_LF_picture_11 : decode prog_1_method_2_code 11 = .ok (.new 61, 3) := by decide +kernel
theorem d_LF_picture_14 : decode prog_1_method_2_code 14 = .ok (.dup, 1) := by decide +kernel
theorem d_LF_picture_15 : decode prog_1_method_2_code 15 = .ok (.ldc 63, 2) := by decide +kernel
theorem d_LF_picture_17 : decode prog_1_method_2_code 17 = .ok (.invokespecial 65, 3) := by decide +kernel
theorem d_LF_picture_20 : decode prog_1_method_2_code 20 = .ok (.athrow, 1) := by decide +kernel
theorem d_LF_picture_21 : decode prog_1_method_2_code 21 = .ok (.aload_n 0, 1) := by decide +kernel
theorem d_LF_picture_22 : decode prog_1_method_2_code 22 = .ok (.getfield 25, 3) := by decide +kernel
theorem d_LF_picture_25 : decode prog_1_method_2_code 25 = .ok (.invokevirtual 68, 3) := by decide +kernel
theorem d_LF_picture_28 : decode prog_1_method_2_code 28 = .ok (.aload_n 0, 1) := by decide +kernel
theorem d_LF_picture_29 : decode prog_1_method_2_code 29 = .ok (.getfield 25, 3) := by decide +kernel
theorem d_LF_picture_32 : decode prog_1_method_2_code 32 = .ok (.iload_n 1, 1) := by decide +kernel
theorem d_LF_picture_33 : decode prog_1_method_2_code 33 = .ok (.iload_n 2, 1) := by decide +kernel
theorem d_LF_picture_34 : decode prog_1_method_2_code 34 = .ok (.iload_n 3, 1) := by decide +kernel
theorem d_LF_picture_35 : decode prog_1_method_2_code 35 = .ok (.iload 4, 2) := by decide +kernel
theorem d_LF_picture_37 : decode prog_1_method_2_code 37 = .ok (.invokevirtual 71, 3) := by decide +kernel
theorem d_LF_picture_40 : decode prog_1_method_2_code 40 = .ok (.iload_n 1, 1) := by decide +kernel
theorem d_LF_picture_41 : decode prog_1_method_2_code 41 = .ok (.iload_n 2, 1) := by decide +kernel
theorem d_LF_picture_42 : decode prog_1_method_2_code 42 = .ok (.imul, 1) := by decide +kernel
theorem d_LF_picture_43 : decode prog_1_method_2_code 43 = .ok (.iload 4, 2) := by decide +kernel
theorem d_LF_picture_45 : decode prog_1_method_2_code 45 = .ok (.imul, 1) := by decide +kernel
theorem d_LF_picture_46 : decode prog_1_method_2_code 46 = .ok (.ireturn, 1) := by decide +kernel
def f_LF_picture (k0 : Nat) (x1 : Int32) (x2 : Int32) (x3 : Int32) (x4 : Int32) (σ : Mem) : Option ((Int32 ⊕ Nat) × Mem) :=
  if (f_PI_mayMeasure x1 x2 x3 x4 σ) = 0 then
  some ((.inr 3), σ)
  else
  (f_PI_clear (wtg k0 1) σ).bind fun σ3 =>
  lt (f_PI_measure (wtg k0 1) x1 x2 x3 x4 σ3) fun σ4 =>
  some ((.inl ((x1 * x2) * x4)), σ4)
set_option maxHeartbeats 4000000 in
set_option maxRecDepth 100000 in
theorem w_LF_picture {F : Fx} (C : Ctx F prog_1_method_2_code 5 "LineFrames" (some .int) 6 90) {k0 : Nat} (h0k : Is k0 0) (x1 : Int32) (x2 : Int32) (x3 : Int32) (x4 : Int32) (σ : Mem) : J F 5 (cvO cvXIM) (f_LF_picture k0 x1 x2 x3 x4 σ) σ 0 [(0, .ref (fad F k0)), (1, .int x1), (2, .int x2), (3, .int x3), (4, .int x4)] [] := by
  unfold f_LF_picture
  refine j_iload_n C d_LF_picture_0 1 rfl ?_
  refine j_iload_n C d_LF_picture_1 2 rfl ?_
  refine j_iload_n C d_LF_picture_2 3 rfl ?_
  refine j_iload C d_LF_picture_3 4 rfl ?_
  refine j_callSi C ms_LF_57 [.int x1, .int x2, .int x3, .int x4] [] (c_PI_mayMeasure x1 x2 x3 x4 σ) rfl rfl (by decide) (Nat.le_of_ble_eq_true rfl) d_LF_picture_5 ?_
  refine j_if_ne (tgt := 21) C d_LF_picture_8 (by decide) (fun c1 => ?_) (fun c1 => ?_)
  · refine j_aload_n C d_LF_picture_21 0 rfl ?_
    refine j_getR C h0k fl_LF_25 rfl d_LF_picture_22 ?_
    refine j_bind rfl (fun σ3 e2 => ?_)
    refine j_callVv C mv_LF_68 [] [] (tg_0_1 _ h0k) (c_PI_clear (tg_0_1 _ h0k) σ e2) rfl rfl (by decide) (Nat.le_of_ble_eq_true rfl) d_LF_picture_25 ?_
    refine j_aload_n C d_LF_picture_28 0 rfl ?_
    refine j_getR C h0k fl_LF_25 rfl d_LF_picture_29 ?_
    refine j_iload_n C d_LF_picture_32 1 rfl ?_
    refine j_iload_n C d_LF_picture_33 2 rfl ?_
    refine j_iload_n C d_LF_picture_34 3 rfl ?_
    refine j_iload C d_LF_picture_35 4 rfl ?_
    refine j_callVv C mv_LF_71 [.int x1, .int x2, .int x3, .int x4] [] (tg_0_1 _ h0k) (c_PI_measure (tg_0_1 _ h0k) x1 x2 x3 x4 σ3) rfl rfl (by decide) (Nat.le_of_ble_eq_true rfl) d_LF_picture_37 ?_
    refine j_genM (fun σ4 => ?_)
    refine j_iload_n C d_LF_picture_40 1 rfl ?_
    refine j_iload_n C d_LF_picture_41 2 rfl ?_
    refine j_imul C d_LF_picture_42 ?_
    refine j_iload C d_LF_picture_43 4 rfl ?_
    refine j_imul C d_LF_picture_45 ?_
    exact j_ireti C (fun ρ h => leaf_eq h) d_LF_picture_46
  · exact j_throw C ox_LF_61_65 (List.mem_of_getElem? (i := 0) rfl) (by decide) (Nat.le_of_ble_eq_true rfl) d_LF_picture_11 d_LF_picture_14 d_LF_picture_15 d_LF_picture_17 d_LF_picture_20 (fun ρ h => leaf_eq h)
theorem c_LF_picture {l : Launch} {D : va_G} {G : GC} {ad : Nat → Nat} {k0 : Nat} (h0k : Is k0 0) (x1 : Int32) (x2 : Int32) (x3 : Int32) (x4 : Int32) (σ : Mem) {q : (Int32 ⊕ Nat) × Mem} (hq : f_LF_picture k0 x1 x2 x3 x4 σ = some q) : Ctr l D G ad ⟨"LineFrames", "picture", "(IIII)I"⟩ prog_1_method_2_code 5 (some .int) 6 90 [.ref (ad k0), .int x1, .int x2, .int x3, .int x4] σ (xrIM q) := ctr_J (cv := (cvO cvXIM)) (E := f_LF_picture k0 x1 x2 x3 x4 σ) (by decide +kernel) (Nat.le_of_ble_eq_true rfl) (by rw [hq]; exact xrIM_ok _) (fun F h C => by subst h; exact w_LF_picture C h0k x1 x2 x3 x4 σ)
/-! LineFrames wantPicture ()V -/
theorem d_LF_wantPicture_0 : decode prog_1_method_19_code 0 = .ok (.aload_n 0, 1) := by decide +kernel
theorem d_LF_wantPicture_1 : decode prog_1_method_19_code 1 = .ok (.getfield 25, 3) := by decide +kernel
theorem d_LF_wantPicture_4 : decode prog_1_method_19_code 4 = .ok (.getfield 222, 3) := by decide +kernel
theorem d_LF_wantPicture_7 : decode prog_1_method_19_code 7 = .ok (.ifCond .ne 14, 3) := by decide +kernel
theorem d_LF_wantPicture_10 : decode prog_1_method_19_code 10 = .ok (.new 271, 3) := by decide +kernel
theorem d_LF_wantPicture_13 : decode prog_1_method_19_code 13 = .ok (.dup, 1) := by decide +kernel
theorem d_LF_wantPicture_14 : decode prog_1_method_19_code 14 = .ok (.ldc_w 273, 3) := by decide +kernel
theorem d_LF_wantPicture_17 : decode prog_1_method_19_code 17 = .ok (.invokespecial 275, 3) := by decide +kernel
theorem d_LF_wantPicture_20 : decode prog_1_method_19_code 20 = .ok (.athrow, 1) := by decide +kernel
theorem d_LF_wantPicture_21 : decode prog_1_method_19_code 21 = .ok (.return_, 1) := by decide +kernel
def f_LF_wantPicture (k0 : Nat) (σ : Mem) : (Unit ⊕ Nat) :=
  if (σ (wtg k0 1) 8) = 0 then
  (.inr 1)
  else
  .inl ()
set_option maxHeartbeats 4000000 in
set_option maxRecDepth 100000 in
theorem w_LF_wantPicture {F : Fx} (C : Ctx F prog_1_method_19_code 1 "LineFrames" none 6 90) {k0 : Nat} (h0k : Is k0 0) (σ : Mem) : J F 1 (cvXV σ) (f_LF_wantPicture k0 σ) σ 0 [(0, .ref (fad F k0))] [] := by
  unfold f_LF_wantPicture
  refine j_aload_n C d_LF_wantPicture_0 0 rfl ?_
  refine j_getR C h0k fl_LF_25 rfl d_LF_wantPicture_1 ?_
  refine j_getI C (tg_0_1 _ h0k) fl_LF_222 rfl d_LF_wantPicture_4 ?_
  refine j_if_ne (tgt := 21) C d_LF_wantPicture_7 (by decide) (fun c1 => ?_) (fun c1 => ?_)
  · exact j_vret C (fun ρ h => leaf_eq h) d_LF_wantPicture_21
  · exact j_throwW C ox_LF_271_275 (List.mem_of_getElem? (i := 1) rfl) (by decide) (Nat.le_of_ble_eq_true rfl) d_LF_wantPicture_10 d_LF_wantPicture_13 d_LF_wantPicture_14 d_LF_wantPicture_17 d_LF_wantPicture_20 (fun ρ h => leaf_eq h)
theorem c_LF_wantPicture {l : Launch} {D : va_G} {G : GC} {ad : Nat → Nat} {k0 : Nat} (h0k : Is k0 0) (σ : Mem) : Ctr l D G ad ⟨"LineFrames", "wantPicture", "()V"⟩ prog_1_method_19_code 1 none 6 90 [.ref (ad k0)] σ (xrV (f_LF_wantPicture k0 σ) σ) := ctr_J (cv := (cvXV σ)) (E := f_LF_wantPicture k0 σ) (by decide +kernel) (Nat.le_of_ble_eq_true rfl) (xrV_ok _ _) (fun F h C => by subst h; exact w_LF_wantPicture C h0k σ)
/-! LineFrames$Picture hasSample (III)Z -/
theorem d_PI_hasSample_0 : decode prog_8_method_9_code 0 = .ok (.aload_n 0, 1) := by decide +kernel
theorem d_PI_hasSample_1 : decode prog_8_method_9_code 1 = .ok (.iload_n 1, 1) := by decide +kernel
theorem d_PI_hasSample_2 : decode prog_8_method_9_code 2 = .ok (.invokevirtual 67, 3) := by decide +kernel
theorem d_PI_hasSample_5 : decode prog_8_method_9_code 5 = .ok (.ifCond .eq 31, 3) := by decide +kernel
theorem d_PI_hasSample_8 : decode prog_8_method_9_code 8 = .ok (.iload_n 2, 1) := by decide +kernel
theorem d_PI_hasSample_9 : decode prog_8_method_9_code 9 = .ok (.ifCond .lt 27, 3) := by decide +kernel
theorem d_PI_hasSample_12 : decode prog_8_method_9_code 12 = .ok (.iload_n 2, 1) := by decide +kernel
theorem d_PI_hasSample_13 : decode prog_8_method_9_code 13 = .ok (.aload_n 0, 1) := by decide +kernel
theorem d_PI_hasSample_14 : decode prog_8_method_9_code 14 = .ok (.getfield 36, 3) := by decide +kernel
theorem d_PI_hasSample_17 : decode prog_8_method_9_code 17 = .ok (.if_icmp .ge 19, 3) := by decide +kernel
theorem d_PI_hasSample_20 : decode prog_8_method_9_code 20 = .ok (.iload_n 3, 1) := by decide +kernel
theorem d_PI_hasSample_21 : decode prog_8_method_9_code 21 = .ok (.ifCond .lt 15, 3) := by decide +kernel
theorem d_PI_hasSample_24 : decode prog_8_method_9_code 24 = .ok (.iload_n 3, 1) := by decide +kernel
theorem d_PI_hasSample_25 : decode prog_8_method_9_code 25 = .ok (.aload_n 0, 1) := by decide +kernel
theorem d_PI_hasSample_26 : decode prog_8_method_9_code 26 = .ok (.getfield 40, 3) := by decide +kernel
theorem d_PI_hasSample_29 : decode prog_8_method_9_code 29 = .ok (.if_icmp .ge 7, 3) := by decide +kernel
theorem d_PI_hasSample_32 : decode prog_8_method_9_code 32 = .ok (.iconst 1, 1) := by decide +kernel
theorem d_PI_hasSample_33 : decode prog_8_method_9_code 33 = .ok (.goto 4, 3) := by decide +kernel
theorem d_PI_hasSample_36 : decode prog_8_method_9_code 36 = .ok (.iconst 0, 1) := by decide +kernel
theorem d_PI_hasSample_37 : decode prog_8_method_9_code 37 = .ok (.ireturn, 1) := by decide +kernel
def f_PI_hasSample (k0 : Nat) (x1 : Int32) (x2 : Int32) (x3 : Int32) (σ : Mem) : Int32 :=
  (if (f_PI_hasComponent k0 x1 σ) = 0 then (0 : Int32) else (if x2 < 0 then (0 : Int32) else (if (σ k0 5) ≤ x2 then (0 : Int32) else (if x3 < 0 then (0 : Int32) else (if (σ k0 6) ≤ x3 then (0 : Int32) else (1 : Int32))))))
set_option maxHeartbeats 4000000 in
set_option maxRecDepth 100000 in
theorem w_PI_hasSample {F : Fx} (C : Ctx F prog_8_method_9_code 4 "LineFrames$Picture" (some .boolean) 1 21) {k0 : Nat} (h0k : Is k0 7) (x1 : Int32) (x2 : Int32) (x3 : Int32) (σ : Mem) : J F 4 (cvI σ) (f_PI_hasSample k0 x1 x2 x3 σ) σ 0 [(0, .ref (fad F k0)), (1, .int x1), (2, .int x2), (3, .int x3)] [] := by
  unfold f_PI_hasSample
  refine j_aload_n C d_PI_hasSample_0 0 rfl ?_
  refine j_iload_n C d_PI_hasSample_1 1 rfl ?_
  refine j_callVi C mv_PI_67 [.int x1] [] h0k (c_PI_hasComponent h0k x1 σ) rfl rfl (by decide) (Nat.le_of_ble_eq_true rfl) d_PI_hasSample_2 ?_
  refine d_if_eq (a := (0 : Int32)) (b := (if x2 < 0 then (0 : Int32) else (if (σ k0 5) ≤ x2 then (0 : Int32) else (if x3 < 0 then (0 : Int32) else (if (σ k0 6) ≤ x3 then (0 : Int32) else (1 : Int32)))))) (jp := 37) (tgt := 36) C d_PI_hasSample_5 (by decide) (fun c3 k4 => ?_) (fun c3 k4 => ?_) ?_
  · refine j_iconst (v := (0 : Int32)) C d_PI_hasSample_36 (by decide) ?_
    exact k4
  · refine j_iload_n C d_PI_hasSample_8 2 rfl ?_
    refine d_if_lt (a := (0 : Int32)) (b := (if (σ k0 5) ≤ x2 then (0 : Int32) else (if x3 < 0 then (0 : Int32) else (if (σ k0 6) ≤ x3 then (0 : Int32) else (1 : Int32))))) (jp := 37) (tgt := 36) C d_PI_hasSample_9 (by decide) (fun c5 k6 => ?_) (fun c5 k6 => ?_) ?_
    · refine j_iconst (v := (0 : Int32)) C d_PI_hasSample_36 (by decide) ?_
      exact k6
    · refine j_iload_n C d_PI_hasSample_12 2 rfl ?_
      refine j_aload_n C d_PI_hasSample_13 0 rfl ?_
      refine j_getI C h0k fl_PI_36 rfl d_PI_hasSample_14 ?_
      refine d_icmp_ge (a := (0 : Int32)) (b := (if x3 < 0 then (0 : Int32) else (if (σ k0 6) ≤ x3 then (0 : Int32) else (1 : Int32)))) (jp := 37) (tgt := 36) C d_PI_hasSample_17 (by decide) (fun c7 k8 => ?_) (fun c7 k8 => ?_) ?_
      · refine j_iconst (v := (0 : Int32)) C d_PI_hasSample_36 (by decide) ?_
        exact k8
      · refine j_iload_n C d_PI_hasSample_20 3 rfl ?_
        refine d_if_lt (a := (0 : Int32)) (b := (if (σ k0 6) ≤ x3 then (0 : Int32) else (1 : Int32))) (jp := 37) (tgt := 36) C d_PI_hasSample_21 (by decide) (fun c9 k10 => ?_) (fun c9 k10 => ?_) ?_
        · refine j_iconst (v := (0 : Int32)) C d_PI_hasSample_36 (by decide) ?_
          exact k10
        · refine j_iload_n C d_PI_hasSample_24 3 rfl ?_
          refine j_aload_n C d_PI_hasSample_25 0 rfl ?_
          refine j_getI C h0k fl_PI_40 rfl d_PI_hasSample_26 ?_
          refine d_icmp_ge (a := (0 : Int32)) (b := (1 : Int32)) (jp := 37) (tgt := 36) C d_PI_hasSample_29 (by decide) (fun c11 k12 => ?_) (fun c11 k12 => ?_) ?_
          · refine j_iconst (v := (0 : Int32)) C d_PI_hasSample_36 (by decide) ?_
            exact k12
          · refine j_iconst (v := (1 : Int32)) C d_PI_hasSample_32 (by decide) ?_
            refine j_goto (tgt := 37) C d_PI_hasSample_33 (by decide) ?_
            exact k12
          exact k10
        exact k8
      exact k6
    exact k4
  exact j_iretz C (fun ρ h => leaf_eq h) (nz01 (ite01 (Or.inl rfl) (ite01 (Or.inl rfl) (ite01 (Or.inl rfl) (ite01 (Or.inl rfl) (ite01 (Or.inl rfl) (Or.inr rfl))))))) d_PI_hasSample_37
theorem c_PI_hasSample {l : Launch} {D : va_G} {G : GC} {ad : Nat → Nat} {k0 : Nat} (h0k : Is k0 7) (x1 : Int32) (x2 : Int32) (x3 : Int32) (σ : Mem) : Ctr l D G ad ⟨"LineFrames$Picture", "hasSample", "(III)Z"⟩ prog_8_method_9_code 4 (some .boolean) 1 21 [.ref (ad k0), .int x1, .int x2, .int x3] σ (.inl (some (.int (f_PI_hasSample k0 x1 x2 x3 σ))), σ) := ctr_J (cv := (cvI σ)) (E := f_PI_hasSample k0 x1 x2 x3 σ) (by decide +kernel) (Nat.le_of_ble_eq_true rfl) rfl (fun F h C => by subst h; exact w_PI_hasSample C h0k x1 x2 x3 σ)
theorem z_PI_hasSample (k0 : Nat) (x1 : Int32) (x2 : Int32) (x3 : Int32) (σ : Mem) : f_PI_hasSample k0 x1 x2 x3 σ = 0 ∨ f_PI_hasSample k0 x1 x2 x3 σ = 1 := by
  unfold f_PI_hasSample
  try simp only [lt]
  repeat' split
  all_goals first | exact Or.inl rfl | exact Or.inr rfl | exact z_PI_hasComponent _ _ _
/-! LineFrames$Picture mayBeSample (I)Z -/
theorem d_PI_mayBeSample_0 : decode prog_8_method_7_code 0 = .ok (.iload_n 1, 1) := by decide +kernel
theorem d_PI_mayBeSample_1 : decode prog_8_method_7_code 1 = .ok (.ifCond .lt 15, 3) := by decide +kernel
theorem d_PI_mayBeSample_4 : decode prog_8_method_7_code 4 = .ok (.iload_n 1, 1) := by decide +kernel
theorem d_PI_mayBeSample_5 : decode prog_8_method_7_code 5 = .ok (.aload_n 0, 1) := by decide +kernel
theorem d_PI_mayBeSample_6 : decode prog_8_method_7_code 6 = .ok (.invokevirtual 63, 3) := by decide +kernel
theorem d_PI_mayBeSample_9 : decode prog_8_method_7_code 9 = .ok (.if_icmp .gt 7, 3) := by decide +kernel
theorem d_PI_mayBeSample_12 : decode prog_8_method_7_code 12 = .ok (.iconst 1, 1) := by decide +kernel
theorem d_PI_mayBeSample_13 : decode prog_8_method_7_code 13 = .ok (.goto 4, 3) := by decide +kernel
theorem d_PI_mayBeSample_16 : decode prog_8_method_7_code 16 = .ok (.iconst 0, 1) := by decide +kernel
theorem d_PI_mayBeSample_17 : decode prog_8_method_7_code 17 = .ok (.ireturn, 1) := by decide +kernel
def f_PI_mayBeSample (k0 : Nat) (x1 : Int32) (σ : Mem) : Int32 :=
  (if x1 < 0 then (0 : Int32) else (if (f_PI_top k0 σ) < x1 then (0 : Int32) else (1 : Int32)))
set_option maxHeartbeats 4000000 in
set_option maxRecDepth 100000 in
theorem w_PI_mayBeSample {F : Fx} (C : Ctx F prog_8_method_7_code 2 "LineFrames$Picture" (some .boolean) 1 20) {k0 : Nat} (h0k : Is k0 7) (x1 : Int32) (σ : Mem) : J F 2 (cvI σ) (f_PI_mayBeSample k0 x1 σ) σ 0 [(0, .ref (fad F k0)), (1, .int x1)] [] := by
  unfold f_PI_mayBeSample
  refine j_iload_n C d_PI_mayBeSample_0 1 rfl ?_
  refine d_if_lt (a := (0 : Int32)) (b := (if (f_PI_top k0 σ) < x1 then (0 : Int32) else (1 : Int32))) (jp := 17) (tgt := 16) C d_PI_mayBeSample_1 (by decide) (fun c3 k4 => ?_) (fun c3 k4 => ?_) ?_
  · refine j_iconst (v := (0 : Int32)) C d_PI_mayBeSample_16 (by decide) ?_
    exact k4
  · refine j_iload_n C d_PI_mayBeSample_4 1 rfl ?_
    refine j_aload_n C d_PI_mayBeSample_5 0 rfl ?_
    refine j_callVi C mv_PI_63 [] [.int x1] h0k (c_PI_top h0k σ) rfl rfl (by decide) (Nat.le_of_ble_eq_true rfl) d_PI_mayBeSample_6 ?_
    refine d_icmp_gt (a := (0 : Int32)) (b := (1 : Int32)) (jp := 17) (tgt := 16) C d_PI_mayBeSample_9 (by decide) (fun c5 k6 => ?_) (fun c5 k6 => ?_) ?_
    · refine j_iconst (v := (0 : Int32)) C d_PI_mayBeSample_16 (by decide) ?_
      exact k6
    · refine j_iconst (v := (1 : Int32)) C d_PI_mayBeSample_12 (by decide) ?_
      refine j_goto (tgt := 17) C d_PI_mayBeSample_13 (by decide) ?_
      exact k6
    exact k4
  exact j_iretz C (fun ρ h => leaf_eq h) (nz01 (ite01 (Or.inl rfl) (ite01 (Or.inl rfl) (Or.inr rfl)))) d_PI_mayBeSample_17
theorem c_PI_mayBeSample {l : Launch} {D : va_G} {G : GC} {ad : Nat → Nat} {k0 : Nat} (h0k : Is k0 7) (x1 : Int32) (σ : Mem) : Ctr l D G ad ⟨"LineFrames$Picture", "mayBeSample", "(I)Z"⟩ prog_8_method_7_code 2 (some .boolean) 1 20 [.ref (ad k0), .int x1] σ (.inl (some (.int (f_PI_mayBeSample k0 x1 σ))), σ) := ctr_J (cv := (cvI σ)) (E := f_PI_mayBeSample k0 x1 σ) (by decide +kernel) (Nat.le_of_ble_eq_true rfl) rfl (fun F h C => by subst h; exact w_PI_mayBeSample C h0k x1 σ)
theorem z_PI_mayBeSample (k0 : Nat) (x1 : Int32) (σ : Mem) : f_PI_mayBeSample k0 x1 σ = 0 ∨ f_PI_mayBeSample k0 x1 σ = 1 := by
  unfold f_PI_mayBeSample
  try simp only [lt]
  repeat' split
  all_goals first | exact Or.inl rfl | exact Or.inr rfl
/-! LineFrames put (IIII)I -/
theorem d_LF_put_0 : decode prog_1_method_3_code 0 = .ok (.aload_n 0, 1) := by decide +kernel
theorem d_LF_put_1 : decode prog_1_method_3_code 1 = .ok (.invokevirtual 75, 3) := by decide +kernel
theorem d_LF_put_4 : decode prog_1_method_3_code 4 = .ok (.aload_n 0, 1) := by decide +kernel
theorem d_LF_put_5 : decode prog_1_method_3_code 5 = .ok (.getfield 25, 3) := by decide +kernel
theorem d_LF_put_8 : decode prog_1_method_3_code 8 = .ok (.iload_n 1, 1) := by decide +kernel
theorem d_LF_put_9 : decode prog_1_method_3_code 9 = .ok (.iload_n 2, 1) := by decide +kernel
theorem d_LF_put_10 : decode prog_1_method_3_code 10 = .ok (.iload_n 3, 1) := by decide +kernel
theorem d_LF_put_11 : decode prog_1_method_3_code 11 = .ok (.invokevirtual 78, 3) := by decide +kernel
theorem d_LF_put_14 : decode prog_1_method_3_code 14 = .ok (.ifCond .ne 13, 3) := by decide +kernel
theorem d_LF_put_17 : decode prog_1_method_3_code 17 = .ok (.new 82, 3) := by decide +kernel
theorem d_LF_put_20 : decode prog_1_method_3_code 20 = .ok (.dup, 1) := by decide +kernel
theorem d_LF_put_21 : decode prog_1_method_3_code 21 = .ok (.ldc 84, 2) := by decide +kernel
theorem d_LF_put_23 : decode prog_1_method_3_code 23 = .ok (.invokespecial 86, 3) := by decide +kernel
theorem d_LF_put_26 : decode prog_1_method_3_code 26 = .ok (.athrow, 1) := by decide +kernel
theorem d_LF_put_27 : decode prog_1_method_3_code 27 = .ok (.aload_n 0, 1) := by decide +kernel
theorem d_LF_put_28 : decode prog_1_method_3_code 28 = .ok (.getfield 25, 3) := by decide +kernel
theorem d_LF_put_31 : decode prog_1_method_3_code 31 = .ok (.iload 4, 2) := by decide +kernel
theorem d_LF_put_33 : decode prog_1_method_3_code 33 = .ok (.invokevirtual 87, 3) := by decide +kernel
theorem d_LF_put_36 : decode prog_1_method_3_code 36 = .ok (.ifCond .ne 13, 3) := by decide +kernel
theorem d_LF_put_39 : decode prog_1_method_3_code 39 = .ok (.new 61, 3) := by decide +kernel
theorem d_LF_put_42 : decode prog_1_method_3_code 42 = .ok (.dup, 1) := by decide +kernel
theorem d_LF_put_43 : decode prog_1_method_3_code 43 = .ok (.ldc 91, 2) := by decide +kernel
theorem d_LF_put_45 : decode prog_1_method_3_code 45 = .ok (.invokespecial 65, 3) := by decide +kernel
theorem d_LF_put_48 : decode prog_1_method_3_code 48 = .ok (.athrow, 1) := by decide +kernel
theorem d_LF_put_49 : decode prog_1_method_3_code 49 = .ok (.iload_n 1, 1) := by decide +kernel
theorem d_LF_put_50 : decode prog_1_method_3_code 50 = .ok (.iload_n 2, 1) := by decide +kernel
theorem d_LF_put_51 : decode prog_1_method_3_code 51 = .ok (.iload_n 3, 1) := by decide +kernel
theorem d_LF_put_52 : decode prog_1_method_3_code 52 = .ok (.invokestatic 93, 3) := by decide +kernel
theorem d_LF_put_55 : decode prog_1_method_3_code 55 = .ok (.istore 5, 2) := by decide +kernel
theorem d_LF_put_57 : decode prog_1_method_3_code 57 = .ok (.aload_n 0, 1) := by decide +kernel
theorem d_LF_put_58 : decode prog_1_method_3_code 58 = .ok (.getfield 25, 3) := by decide +kernel
theorem d_LF_put_61 : decode prog_1_method_3_code 61 = .ok (.getfield 97, 3) := by decide +kernel
theorem d_LF_put_64 : decode prog_1_method_3_code 64 = .ok (.iload 5, 2) := by decide +kernel
theorem d_LF_put_66 : decode prog_1_method_3_code 66 = .ok (.invokevirtual 101, 3) := by decide +kernel
theorem d_LF_put_69 : decode prog_1_method_3_code 69 = .ok (.istore 6, 2) := by decide +kernel
theorem d_LF_put_71 : decode prog_1_method_3_code 71 = .ok (.aload_n 0, 1) := by decide +kernel
theorem d_LF_put_72 : decode prog_1_method_3_code 72 = .ok (.getfield 25, 3) := by decide +kernel
theorem d_LF_put_75 : decode prog_1_method_3_code 75 = .ok (.getfield 97, 3) := by decide +kernel
theorem d_LF_put_78 : decode prog_1_method_3_code 78 = .ok (.iload 5, 2) := by decide +kernel
theorem d_LF_put_80 : decode prog_1_method_3_code 80 = .ok (.iload 4, 2) := by decide +kernel
theorem d_LF_put_82 : decode prog_1_method_3_code 82 = .ok (.invokevirtual 107, 3) := by decide +kernel
theorem d_LF_put_85 : decode prog_1_method_3_code 85 = .ok (.iload 6, 2) := by decide +kernel
theorem d_LF_put_87 : decode prog_1_method_3_code 87 = .ok (.ireturn, 1) := by decide +kernel
def f_LF_put (k0 : Nat) (x1 : Int32) (x2 : Int32) (x3 : Int32) (x4 : Int32) (σ : Mem) : (Int32 ⊕ Nat) × Mem :=
  xcase (f_LF_wantPicture k0 σ) (fun _ =>
  if (f_PI_hasSample (wtg k0 1) x1 x2 x3 σ) = 0 then
  ((.inr 2), σ)
  else
  if (f_PI_mayBeSample (wtg k0 1) x4 σ) = 0 then
  ((.inr 3), σ)
  else
  lt (f_RO_get (wtg (wtg k0 1) 0) (f_LF_placeOf x1 x2 x3 σ) σ) fun v4 =>
  lt (f_RO_set (wtg (wtg k0 1) 0) (f_LF_placeOf x1 x2 x3 σ) x4 σ) fun σ5 =>
  ((.inl v4), σ5)) (fun n => ((.inr n), σ))
set_option maxHeartbeats 4000000 in
set_option maxRecDepth 100000 in
theorem w_LF_put {F : Fx} (C : Ctx F prog_1_method_3_code 7 "LineFrames" (some .int) 7 110) {k0 : Nat} (h0k : Is k0 0) (x1 : Int32) (x2 : Int32) (x3 : Int32) (x4 : Int32) (σ : Mem) : J F 7 cvXIM (f_LF_put k0 x1 x2 x3 x4 σ) σ 0 [(0, .ref (fad F k0)), (1, .int x1), (2, .int x2), (3, .int x3), (4, .int x4)] [] := by
  unfold f_LF_put
  refine j_aload_n C d_LF_put_0 0 rfl ?_
  refine j_xcase (fun _ e1 => ?_) (fun n e1 => ?_)
  · refine j_callVv C mv_LF_75 [] [] h0k (ctr_xl e1 (c_LF_wantPicture h0k σ)) rfl rfl (by decide) (Nat.le_of_ble_eq_true rfl) d_LF_put_1 ?_
    refine j_aload_n C d_LF_put_4 0 rfl ?_
    refine j_getR C h0k fl_LF_25 rfl d_LF_put_5 ?_
    refine j_iload_n C d_LF_put_8 1 rfl ?_
    refine j_iload_n C d_LF_put_9 2 rfl ?_
    refine j_iload_n C d_LF_put_10 3 rfl ?_
    refine j_callVi C mv_LF_78 [.int x1, .int x2, .int x3] [] (tg_0_1 _ h0k) (c_PI_hasSample (tg_0_1 _ h0k) x1 x2 x3 σ) rfl rfl (by decide) (Nat.le_of_ble_eq_true rfl) d_LF_put_11 ?_
    refine j_if_ne (tgt := 27) C d_LF_put_14 (by decide) (fun c2 => ?_) (fun c2 => ?_)
    · refine j_aload_n C d_LF_put_27 0 rfl ?_
      refine j_getR C h0k fl_LF_25 rfl d_LF_put_28 ?_
      refine j_iload C d_LF_put_31 4 rfl ?_
      refine j_callVi C mv_LF_87 [.int x4] [] (tg_0_1 _ h0k) (c_PI_mayBeSample (tg_0_1 _ h0k) x4 σ) rfl rfl (by decide) (Nat.le_of_ble_eq_true rfl) d_LF_put_33 ?_
      refine j_if_ne (tgt := 49) C d_LF_put_36 (by decide) (fun c3 => ?_) (fun c3 => ?_)
      · refine j_iload_n C d_LF_put_49 1 rfl ?_
        refine j_iload_n C d_LF_put_50 2 rfl ?_
        refine j_iload_n C d_LF_put_51 3 rfl ?_
        refine j_callSi C ms_LF_93 [.int x1, .int x2, .int x3] [] (c_LF_placeOf x1 x2 x3 σ) rfl rfl (by decide) (Nat.le_of_ble_eq_true rfl) d_LF_put_52 ?_
        refine j_istore (lv9 := [(0, .ref (fad F k0)), (1, .int x1), (2, .int x2), (3, .int x3), (4, .int x4), (5, .int (f_LF_placeOf x1 x2 x3 σ))]) C d_LF_put_55 rfl rfl (by decide) ?_
        refine j_aload_n C d_LF_put_57 0 rfl ?_
        refine j_getR C h0k fl_LF_25 rfl d_LF_put_58 ?_
        refine j_getR C (tg_0_1 _ h0k) fl_LF_97 rfl d_LF_put_61 ?_
        refine j_iload C d_LF_put_64 5 rfl ?_
        refine j_callVi C mv_LF_101 [.int (f_LF_placeOf x1 x2 x3 σ)] [] (tg_7_0 _ (tg_0_1 _ h0k)) (c_RO_get (tg_7_0 _ (tg_0_1 _ h0k)) (f_LF_placeOf x1 x2 x3 σ) σ) rfl rfl (by decide) (Nat.le_of_ble_eq_true rfl) d_LF_put_66 ?_
        refine j_nm (fun v4 v4_e => ?_)
        refine j_istore (lv9 := [(0, .ref (fad F k0)), (1, .int x1), (2, .int x2), (3, .int x3), (4, .int x4), (5, .int (f_LF_placeOf x1 x2 x3 σ)), (6, .int v4)]) C d_LF_put_69 rfl rfl (by decide) ?_
        refine j_aload_n C d_LF_put_71 0 rfl ?_
        refine j_getR C h0k fl_LF_25 rfl d_LF_put_72 ?_
        refine j_getR C (tg_0_1 _ h0k) fl_LF_97 rfl d_LF_put_75 ?_
        refine j_iload C d_LF_put_78 5 rfl ?_
        refine j_iload C d_LF_put_80 4 rfl ?_
        refine j_callVv C mv_LF_107 [.int (f_LF_placeOf x1 x2 x3 σ), .int x4] [] (tg_7_0 _ (tg_0_1 _ h0k)) (c_RO_set (tg_7_0 _ (tg_0_1 _ h0k)) (f_LF_placeOf x1 x2 x3 σ) x4 σ) rfl rfl (by decide) (Nat.le_of_ble_eq_true rfl) d_LF_put_82 ?_
        refine j_genM (fun σ5 => ?_)
        refine j_iload C d_LF_put_85 6 rfl ?_
        exact j_ireti C (fun ρ h => leaf_eq h) d_LF_put_87
      · exact j_throw C ox_LF_61_65 (List.mem_of_getElem? (i := 3) rfl) (by decide) (Nat.le_of_ble_eq_true rfl) d_LF_put_39 d_LF_put_42 d_LF_put_43 d_LF_put_45 d_LF_put_48 (fun ρ h => leaf_eq h)
    · exact j_throw C ox_LF_82_86 (List.mem_of_getElem? (i := 2) rfl) (by decide) (Nat.le_of_ble_eq_true rfl) d_LF_put_17 d_LF_put_20 d_LF_put_21 d_LF_put_23 d_LF_put_26 (fun ρ h => leaf_eq h)
  · refine j_callVx C mv_LF_75 [] [] h0k (ctr_xr e1 (c_LF_wantPicture h0k σ)) rfl rfl (by decide) (Nat.le_of_ble_eq_true rfl) d_LF_put_1 (fun ρ h => leaf_eq h)
theorem c_LF_put {l : Launch} {D : va_G} {G : GC} {ad : Nat → Nat} {k0 : Nat} (h0k : Is k0 0) (x1 : Int32) (x2 : Int32) (x3 : Int32) (x4 : Int32) (σ : Mem) : Ctr l D G ad ⟨"LineFrames", "put", "(IIII)I"⟩ prog_1_method_3_code 7 (some .int) 7 110 [.ref (ad k0), .int x1, .int x2, .int x3, .int x4] σ (xrIM (f_LF_put k0 x1 x2 x3 x4 σ)) := ctr_J (cv := cvXIM) (E := f_LF_put k0 x1 x2 x3 x4 σ) (by decide +kernel) (Nat.le_of_ble_eq_true rfl) (xrIM_ok _) (fun F h C => by subst h; exact w_LF_put C h0k x1 x2 x3 x4 σ)
/-! LineFrames preset (II)I -/
theorem d_LF_preset_0 : decode prog_1_method_4_code 0 = .ok (.aload_n 0, 1) := by decide +kernel
theorem d_LF_preset_1 : decode prog_1_method_4_code 1 = .ok (.invokevirtual 75, 3) := by decide +kernel
theorem d_LF_preset_4 : decode prog_1_method_4_code 4 = .ok (.iload_n 1, 1) := by decide +kernel
theorem d_LF_preset_5 : decode prog_1_method_4_code 5 = .ok (.iload_n 2, 1) := by decide +kernel
theorem d_LF_preset_6 : decode prog_1_method_4_code 6 = .ok (.invokestatic 111, 3) := by decide +kernel
theorem d_LF_preset_9 : decode prog_1_method_4_code 9 = .ok (.ifCond .ne 13, 3) := by decide +kernel
theorem d_LF_preset_12 : decode prog_1_method_4_code 12 = .ok (.new 61, 3) := by decide +kernel
theorem d_LF_preset_15 : decode prog_1_method_4_code 15 = .ok (.dup, 1) := by decide +kernel
theorem d_LF_preset_16 : decode prog_1_method_4_code 16 = .ok (.ldc 115, 2) := by decide +kernel
theorem d_LF_preset_18 : decode prog_1_method_4_code 18 = .ok (.invokespecial 65, 3) := by decide +kernel
theorem d_LF_preset_21 : decode prog_1_method_4_code 21 = .ok (.athrow, 1) := by decide +kernel
theorem d_LF_preset_22 : decode prog_1_method_4_code 22 = .ok (.aload_n 0, 1) := by decide +kernel
theorem d_LF_preset_23 : decode prog_1_method_4_code 23 = .ok (.getfield 25, 3) := by decide +kernel
theorem d_LF_preset_26 : decode prog_1_method_4_code 26 = .ok (.getfield 117, 3) := by decide +kernel
theorem d_LF_preset_29 : decode prog_1_method_4_code 29 = .ok (.iload_n 1, 1) := by decide +kernel
theorem d_LF_preset_30 : decode prog_1_method_4_code 30 = .ok (.invokevirtual 101, 3) := by decide +kernel
theorem d_LF_preset_33 : decode prog_1_method_4_code 33 = .ok (.istore_n 3, 1) := by decide +kernel
theorem d_LF_preset_34 : decode prog_1_method_4_code 34 = .ok (.aload_n 0, 1) := by decide +kernel
theorem d_LF_preset_35 : decode prog_1_method_4_code 35 = .ok (.getfield 25, 3) := by decide +kernel
theorem d_LF_preset_38 : decode prog_1_method_4_code 38 = .ok (.getfield 117, 3) := by decide +kernel
theorem d_LF_preset_41 : decode prog_1_method_4_code 41 = .ok (.iload_n 1, 1) := by decide +kernel
theorem d_LF_preset_42 : decode prog_1_method_4_code 42 = .ok (.iload_n 2, 1) := by decide +kernel
theorem d_LF_preset_43 : decode prog_1_method_4_code 43 = .ok (.invokevirtual 107, 3) := by decide +kernel
theorem d_LF_preset_46 : decode prog_1_method_4_code 46 = .ok (.iload_n 3, 1) := by decide +kernel
theorem d_LF_preset_47 : decode prog_1_method_4_code 47 = .ok (.ireturn, 1) := by decide +kernel
def f_LF_preset (k0 : Nat) (x1 : Int32) (x2 : Int32) (σ : Mem) : (Int32 ⊕ Nat) × Mem :=
  xcase (f_LF_wantPicture k0 σ) (fun _ =>
  if (f_PI_mayPreset x1 x2 σ) = 0 then
  ((.inr 3), σ)
  else
  lt (f_RO_set (wtg (wtg k0 1) 1) x1 x2 σ) fun σ3 =>
  ((.inl (f_RO_get (wtg (wtg k0 1) 1) x1 σ)), σ3)) (fun n => ((.inr n), σ))
set_option maxHeartbeats 4000000 in
set_option maxRecDepth 100000 in
theorem w_LF_preset {F : Fx} (C : Ctx F prog_1_method_4_code 4 "LineFrames" (some .int) 7 110) {k0 : Nat} (h0k : Is k0 0) (x1 : Int32) (x2 : Int32) (σ : Mem) : J F 4 cvXIM (f_LF_preset k0 x1 x2 σ) σ 0 [(0, .ref (fad F k0)), (1, .int x1), (2, .int x2)] [] := by
  unfold f_LF_preset
  refine j_aload_n C d_LF_preset_0 0 rfl ?_
  refine j_xcase (fun _ e1 => ?_) (fun n e1 => ?_)
  · refine j_callVv C mv_LF_75 [] [] h0k (ctr_xl e1 (c_LF_wantPicture h0k σ)) rfl rfl (by decide) (Nat.le_of_ble_eq_true rfl) d_LF_preset_1 ?_
    refine j_iload_n C d_LF_preset_4 1 rfl ?_
    refine j_iload_n C d_LF_preset_5 2 rfl ?_
    refine j_callSi C ms_LF_111 [.int x1, .int x2] [] (c_PI_mayPreset x1 x2 σ) rfl rfl (by decide) (Nat.le_of_ble_eq_true rfl) d_LF_preset_6 ?_
    refine j_if_ne (tgt := 22) C d_LF_preset_9 (by decide) (fun c2 => ?_) (fun c2 => ?_)
    · refine j_aload_n C d_LF_preset_22 0 rfl ?_
      refine j_getR C h0k fl_LF_25 rfl d_LF_preset_23 ?_
      refine j_getR C (tg_0_1 _ h0k) fl_LF_117 rfl d_LF_preset_26 ?_
      refine j_iload_n C d_LF_preset_29 1 rfl ?_
      refine j_callVi C mv_LF_101 [.int x1] [] (tg_7_1 _ (tg_0_1 _ h0k)) (c_RO_get (tg_7_1 _ (tg_0_1 _ h0k)) x1 σ) rfl rfl (by decide) (Nat.le_of_ble_eq_true rfl) d_LF_preset_30 ?_
      refine j_istore_n (lv9 := [(0, .ref (fad F k0)), (1, .int x1), (2, .int x2), (3, .int (f_RO_get (wtg (wtg k0 1) 1) x1 σ))]) C d_LF_preset_33 rfl rfl (by decide) ?_
      refine j_aload_n C d_LF_preset_34 0 rfl ?_
      refine j_getR C h0k fl_LF_25 rfl d_LF_preset_35 ?_
      refine j_getR C (tg_0_1 _ h0k) fl_LF_117 rfl d_LF_preset_38 ?_
      refine j_iload_n C d_LF_preset_41 1 rfl ?_
      refine j_iload_n C d_LF_preset_42 2 rfl ?_
      refine j_callVv C mv_LF_107 [.int x1, .int x2] [] (tg_7_1 _ (tg_0_1 _ h0k)) (c_RO_set (tg_7_1 _ (tg_0_1 _ h0k)) x1 x2 σ) rfl rfl (by decide) (Nat.le_of_ble_eq_true rfl) d_LF_preset_43 ?_
      refine j_genM (fun σ3 => ?_)
      refine j_iload_n C d_LF_preset_46 3 rfl ?_
      exact j_ireti C (fun ρ h => leaf_eq h) d_LF_preset_47
    · exact j_throw C ox_LF_61_65 (List.mem_of_getElem? (i := 4) rfl) (by decide) (Nat.le_of_ble_eq_true rfl) d_LF_preset_12 d_LF_preset_15 d_LF_preset_16 d_LF_preset_18 d_LF_preset_21 (fun ρ h => leaf_eq h)
  · refine j_callVx C mv_LF_75 [] [] h0k (ctr_xr e1 (c_LF_wantPicture h0k σ)) rfl rfl (by decide) (Nat.le_of_ble_eq_true rfl) d_LF_preset_1 (fun ρ h => leaf_eq h)
theorem c_LF_preset {l : Launch} {D : va_G} {G : GC} {ad : Nat → Nat} {k0 : Nat} (h0k : Is k0 0) (x1 : Int32) (x2 : Int32) (σ : Mem) : Ctr l D G ad ⟨"LineFrames", "preset", "(II)I"⟩ prog_1_method_4_code 4 (some .int) 7 110 [.ref (ad k0), .int x1, .int x2] σ (xrIM (f_LF_preset k0 x1 x2 σ)) := ctr_J (cv := cvXIM) (E := f_LF_preset k0 x1 x2 σ) (by decide +kernel) (Nat.le_of_ble_eq_true rfl) (xrIM_ok _) (fun F h C => by subst h; exact w_LF_preset C h0k x1 x2 σ)
/-! LineFrames$Picture numberOf (II)I -/
theorem d_PI_numberOf_0 : decode prog_8_method_12_code 0 = .ok (.aload_n 0, 1) := by decide +kernel
theorem d_PI_numberOf_1 : decode prog_8_method_12_code 1 = .ok (.getfield 26, 3) := by decide +kernel
theorem d_PI_numberOf_4 : decode prog_8_method_12_code 4 = .ok (.iload_n 1, 1) := by decide +kernel
theorem d_PI_numberOf_5 : decode prog_8_method_12_code 5 = .ok (.sipush 256, 3) := by decide +kernel
theorem d_PI_numberOf_8 : decode prog_8_method_12_code 8 = .ok (.imul, 1) := by decide +kernel
theorem d_PI_numberOf_9 : decode prog_8_method_12_code 9 = .ok (.iload_n 2, 1) := by decide +kernel
theorem d_PI_numberOf_10 : decode prog_8_method_12_code 10 = .ok (.iadd, 1) := by decide +kernel
theorem d_PI_numberOf_11 : decode prog_8_method_12_code 11 = .ok (.invokevirtual 71, 3) := by decide +kernel
theorem d_PI_numberOf_14 : decode prog_8_method_12_code 14 = .ok (.ireturn, 1) := by decide +kernel
def f_PI_numberOf (k0 : Nat) (x1 : Int32) (x2 : Int32) (σ : Mem) : Int32 :=
  (f_RO_get (wtg k0 3) ((x1 * (256 : Int32)) + x2) σ)
set_option maxHeartbeats 4000000 in
set_option maxRecDepth 100000 in
theorem w_PI_numberOf {F : Fx} (C : Ctx F prog_8_method_12_code 3 "LineFrames$Picture" (some .int) 1 21) {k0 : Nat} (h0k : Is k0 7) (x1 : Int32) (x2 : Int32) (σ : Mem) : J F 3 (cvI σ) (f_PI_numberOf k0 x1 x2 σ) σ 0 [(0, .ref (fad F k0)), (1, .int x1), (2, .int x2)] [] := by
  unfold f_PI_numberOf
  refine j_aload_n C d_PI_numberOf_0 0 rfl ?_
  refine j_getR C h0k fl_PI_26 rfl d_PI_numberOf_1 ?_
  refine j_iload_n C d_PI_numberOf_4 1 rfl ?_
  refine j_sipush (v := (256 : Int32)) C d_PI_numberOf_5 (by decide) ?_
  refine j_imul C d_PI_numberOf_8 ?_
  refine j_iload_n C d_PI_numberOf_9 2 rfl ?_
  refine j_iadd C d_PI_numberOf_10 ?_
  refine j_callVi C mv_PI_71 [.int ((x1 * (256 : Int32)) + x2)] [] (tg_7_3 _ h0k) (c_RO_get (tg_7_3 _ h0k) ((x1 * (256 : Int32)) + x2) σ) rfl rfl (by decide) (Nat.le_of_ble_eq_true rfl) d_PI_numberOf_11 ?_
  exact j_ireti C (fun ρ h => leaf_eq h) d_PI_numberOf_14
theorem c_PI_numberOf {l : Launch} {D : va_G} {G : GC} {ad : Nat → Nat} {k0 : Nat} (h0k : Is k0 7) (x1 : Int32) (x2 : Int32) (σ : Mem) : Ctr l D G ad ⟨"LineFrames$Picture", "numberOf", "(II)I"⟩ prog_8_method_12_code 3 (some .int) 1 21 [.ref (ad k0), .int x1, .int x2] σ (.inl (some (.int (f_PI_numberOf k0 x1 x2 σ))), σ) := ctr_J (cv := (cvI σ)) (E := f_PI_numberOf k0 x1 x2 σ) (by decide +kernel) (Nat.le_of_ble_eq_true rfl) rfl (fun F h C => by subst h; exact w_PI_numberOf C h0k x1 x2 σ)
/-! LineFrames table (III)I -/
theorem d_LF_table_0 : decode prog_1_method_5_code 0 = .ok (.aload_n 0, 1) := by decide +kernel
theorem d_LF_table_1 : decode prog_1_method_5_code 1 = .ok (.invokevirtual 75, 3) := by decide +kernel
theorem d_LF_table_4 : decode prog_1_method_5_code 4 = .ok (.aload_n 0, 1) := by decide +kernel
theorem d_LF_table_5 : decode prog_1_method_5_code 5 = .ok (.getfield 25, 3) := by decide +kernel
theorem d_LF_table_8 : decode prog_1_method_5_code 8 = .ok (.iload_n 1, 1) := by decide +kernel
theorem d_LF_table_9 : decode prog_1_method_5_code 9 = .ok (.invokevirtual 120, 3) := by decide +kernel
theorem d_LF_table_12 : decode prog_1_method_5_code 12 = .ok (.ifCond .ne 13, 3) := by decide +kernel
theorem d_LF_table_15 : decode prog_1_method_5_code 15 = .ok (.new 82, 3) := by decide +kernel
theorem d_LF_table_18 : decode prog_1_method_5_code 18 = .ok (.dup, 1) := by decide +kernel
theorem d_LF_table_19 : decode prog_1_method_5_code 19 = .ok (.ldc 123, 2) := by decide +kernel
theorem d_LF_table_21 : decode prog_1_method_5_code 21 = .ok (.invokespecial 86, 3) := by decide +kernel
theorem d_LF_table_24 : decode prog_1_method_5_code 24 = .ok (.athrow, 1) := by decide +kernel
theorem d_LF_table_25 : decode prog_1_method_5_code 25 = .ok (.aload_n 0, 1) := by decide +kernel
theorem d_LF_table_26 : decode prog_1_method_5_code 26 = .ok (.getfield 25, 3) := by decide +kernel
theorem d_LF_table_29 : decode prog_1_method_5_code 29 = .ok (.iload_n 2, 1) := by decide +kernel
theorem d_LF_table_30 : decode prog_1_method_5_code 30 = .ok (.invokevirtual 87, 3) := by decide +kernel
theorem d_LF_table_33 : decode prog_1_method_5_code 33 = .ok (.ifCond .eq 13, 3) := by decide +kernel
theorem d_LF_table_36 : decode prog_1_method_5_code 36 = .ok (.iload_n 3, 1) := by decide +kernel
theorem d_LF_table_37 : decode prog_1_method_5_code 37 = .ok (.ifCond .lt 9, 3) := by decide +kernel
theorem d_LF_table_40 : decode prog_1_method_5_code 40 = .ok (.iload_n 3, 1) := by decide +kernel
theorem d_LF_table_41 : decode prog_1_method_5_code 41 = .ok (.ldc 125, 2) := by decide +kernel
theorem d_LF_table_43 : decode prog_1_method_5_code 43 = .ok (.if_icmp .le 13, 3) := by decide +kernel
theorem d_LF_table_46 : decode prog_1_method_5_code 46 = .ok (.new 61, 3) := by decide +kernel
theorem d_LF_table_49 : decode prog_1_method_5_code 49 = .ok (.dup, 1) := by decide +kernel
theorem d_LF_table_50 : decode prog_1_method_5_code 50 = .ok (.ldc 126, 2) := by decide +kernel
theorem d_LF_table_52 : decode prog_1_method_5_code 52 = .ok (.invokespecial 65, 3) := by decide +kernel
theorem d_LF_table_55 : decode prog_1_method_5_code 55 = .ok (.athrow, 1) := by decide +kernel
theorem d_LF_table_56 : decode prog_1_method_5_code 56 = .ok (.aload_n 0, 1) := by decide +kernel
theorem d_LF_table_57 : decode prog_1_method_5_code 57 = .ok (.getfield 25, 3) := by decide +kernel
theorem d_LF_table_60 : decode prog_1_method_5_code 60 = .ok (.iload_n 1, 1) := by decide +kernel
theorem d_LF_table_61 : decode prog_1_method_5_code 61 = .ok (.invokevirtual 128, 3) := by decide +kernel
theorem d_LF_table_64 : decode prog_1_method_5_code 64 = .ok (.ifCond .eq 15, 3) := by decide +kernel
theorem d_LF_table_67 : decode prog_1_method_5_code 67 = .ok (.aload_n 0, 1) := by decide +kernel
theorem d_LF_table_68 : decode prog_1_method_5_code 68 = .ok (.getfield 25, 3) := by decide +kernel
theorem d_LF_table_71 : decode prog_1_method_5_code 71 = .ok (.iload_n 1, 1) := by decide +kernel
theorem d_LF_table_72 : decode prog_1_method_5_code 72 = .ok (.iload_n 2, 1) := by decide +kernel
theorem d_LF_table_73 : decode prog_1_method_5_code 73 = .ok (.invokevirtual 131, 3) := by decide +kernel
theorem d_LF_table_76 : decode prog_1_method_5_code 76 = .ok (.goto 4, 3) := by decide +kernel
theorem d_LF_table_79 : decode prog_1_method_5_code 79 = .ok (.iconst (-1), 1) := by decide +kernel
theorem d_LF_table_80 : decode prog_1_method_5_code 80 = .ok (.istore 4, 2) := by decide +kernel
theorem d_LF_table_82 : decode prog_1_method_5_code 82 = .ok (.iload 4, 2) := by decide +kernel
theorem d_LF_table_84 : decode prog_1_method_5_code 84 = .ok (.iconst (-1), 1) := by decide +kernel
theorem d_LF_table_85 : decode prog_1_method_5_code 85 = .ok (.if_icmp .ne 11, 3) := by decide +kernel
theorem d_LF_table_88 : decode prog_1_method_5_code 88 = .ok (.aload_n 0, 1) := by decide +kernel
theorem d_LF_table_89 : decode prog_1_method_5_code 89 = .ok (.getfield 25, 3) := by decide +kernel
theorem d_LF_table_92 : decode prog_1_method_5_code 92 = .ok (.iload_n 1, 1) := by decide +kernel
theorem d_LF_table_93 : decode prog_1_method_5_code 93 = .ok (.invokevirtual 134, 3) := by decide +kernel
theorem d_LF_table_96 : decode prog_1_method_5_code 96 = .ok (.aload_n 0, 1) := by decide +kernel
theorem d_LF_table_97 : decode prog_1_method_5_code 97 = .ok (.getfield 25, 3) := by decide +kernel
theorem d_LF_table_100 : decode prog_1_method_5_code 100 = .ok (.iload_n 1, 1) := by decide +kernel
theorem d_LF_table_101 : decode prog_1_method_5_code 101 = .ok (.iload_n 2, 1) := by decide +kernel
theorem d_LF_table_102 : decode prog_1_method_5_code 102 = .ok (.iload_n 3, 1) := by decide +kernel
theorem d_LF_table_103 : decode prog_1_method_5_code 103 = .ok (.invokevirtual 138, 3) := by decide +kernel
theorem d_LF_table_106 : decode prog_1_method_5_code 106 = .ok (.iload 4, 2) := by decide +kernel
theorem d_LF_table_108 : decode prog_1_method_5_code 108 = .ok (.ireturn, 1) := by decide +kernel
def f_LF_table (k0 : Nat) (x1 : Int32) (x2 : Int32) (x3 : Int32) (σ : Mem) : Option ((Int32 ⊕ Nat) × Mem) :=
  xcase (f_LF_wantPicture k0 σ) (fun _ =>
  if (f_PI_hasComponent (wtg k0 1) x1 σ) = 0 then
  some ((.inr 2), σ)
  else
  if (f_PI_mayBeSample (wtg k0 1) x2 σ) = 0 then
  some ((.inr 3), σ)
  else
  if x3 < 0 then
  some ((.inr 3), σ)
  else
  if x3 ≤ (65535 : Int32) then
  lt (if (f_PI_hasTable (wtg k0 1) x1 σ) = 0 then (-1 : Int32) else (f_PI_numberOf (wtg k0 1) x1 x2 σ)) fun v28 =>
  lt (fun  (σ46 : Mem) => 
  lt (f_PI_setNumber (wtg k0 1) x1 x2 x3 σ46) fun σ49 =>
  some ((.inl v28), σ49)) fun K47 =>
  if v28 = (-1 : Int32) then
  (f_PI_openTable (wtg k0 1) x1 σ).bind fun σ52 =>
  K47 σ52
  else
  K47 σ
  else
  some ((.inr 3), σ)) (fun n => some ((.inr n), σ))
set_option maxHeartbeats 4000000 in
set_option maxRecDepth 100000 in
theorem w_LF_table {F : Fx} (C : Ctx F prog_1_method_5_code 5 "LineFrames" (some .int) 7 110) {k0 : Nat} (h0k : Is k0 0) (x1 : Int32) (x2 : Int32) (x3 : Int32) (σ : Mem) : J F 5 (cvO cvXIM) (f_LF_table k0 x1 x2 x3 σ) σ 0 [(0, .ref (fad F k0)), (1, .int x1), (2, .int x2), (3, .int x3)] [] := by
  unfold f_LF_table
  refine j_aload_n C d_LF_table_0 0 rfl ?_
  refine j_xcase (fun _ e1 => ?_) (fun n e1 => ?_)
  · refine j_callVv C mv_LF_75 [] [] h0k (ctr_xl e1 (c_LF_wantPicture h0k σ)) rfl rfl (by decide) (Nat.le_of_ble_eq_true rfl) d_LF_table_1 ?_
    refine j_aload_n C d_LF_table_4 0 rfl ?_
    refine j_getR C h0k fl_LF_25 rfl d_LF_table_5 ?_
    refine j_iload_n C d_LF_table_8 1 rfl ?_
    refine j_callVi C mv_LF_120 [.int x1] [] (tg_0_1 _ h0k) (c_PI_hasComponent (tg_0_1 _ h0k) x1 σ) rfl rfl (by decide) (Nat.le_of_ble_eq_true rfl) d_LF_table_9 ?_
    refine j_if_ne (tgt := 25) C d_LF_table_12 (by decide) (fun c2 => ?_) (fun c2 => ?_)
    · refine j_aload_n C d_LF_table_25 0 rfl ?_
      refine j_getR C h0k fl_LF_25 rfl d_LF_table_26 ?_
      refine j_iload_n C d_LF_table_29 2 rfl ?_
      refine j_callVi C mv_LF_87 [.int x2] [] (tg_0_1 _ h0k) (c_PI_mayBeSample (tg_0_1 _ h0k) x2 σ) rfl rfl (by decide) (Nat.le_of_ble_eq_true rfl) d_LF_table_30 ?_
      refine j_if_eq (tgt := 46) C d_LF_table_33 (by decide) (fun c13 => ?_) (fun c13 => ?_)
      · exact j_throw C ox_LF_61_65 (List.mem_of_getElem? (i := 6) rfl) (by decide) (Nat.le_of_ble_eq_true rfl) d_LF_table_46 d_LF_table_49 d_LF_table_50 d_LF_table_52 d_LF_table_55 (fun ρ h => leaf_eq h)
      · refine j_iload_n C d_LF_table_36 3 rfl ?_
        refine j_if_lt (tgt := 46) C d_LF_table_37 (by decide) (fun c24 => ?_) (fun c24 => ?_)
        · exact j_throw C ox_LF_61_65 (List.mem_of_getElem? (i := 6) rfl) (by decide) (Nat.le_of_ble_eq_true rfl) d_LF_table_46 d_LF_table_49 d_LF_table_50 d_LF_table_52 d_LF_table_55 (fun ρ h => leaf_eq h)
        · refine j_iload_n C d_LF_table_40 3 rfl ?_
          refine j_ldc (z := (65535 : Int32)) C (List.mem_of_getElem? (i := 851) (by decide +kernel)) d_LF_table_41 ?_
          refine j_icmp_le (tgt := 56) C d_LF_table_43 (by decide) (fun c25 => ?_) (fun c25 => ?_)
          · refine j_aload_n C d_LF_table_56 0 rfl ?_
            refine j_getR C h0k fl_LF_25 rfl d_LF_table_57 ?_
            refine j_iload_n C d_LF_table_60 1 rfl ?_
            refine j_callVi C mv_LF_128 [.int x1] [] (tg_0_1 _ h0k) (c_PI_hasTable (tg_0_1 _ h0k) x1 σ) rfl rfl (by decide) (Nat.le_of_ble_eq_true rfl) d_LF_table_61 ?_
            refine d_if_eq (a := (-1 : Int32)) (b := (f_PI_numberOf (wtg k0 1) x1 x2 σ)) (jp := 80) (tgt := 79) C d_LF_table_64 (by decide) (fun c26 k27 => ?_) (fun c26 k27 => ?_) ?_
            · refine j_iconst (v := (-1 : Int32)) C d_LF_table_79 (by decide) ?_
              exact k27
            · refine j_aload_n C d_LF_table_67 0 rfl ?_
              refine j_getR C h0k fl_LF_25 rfl d_LF_table_68 ?_
              refine j_iload_n C d_LF_table_71 1 rfl ?_
              refine j_iload_n C d_LF_table_72 2 rfl ?_
              refine j_callVi C mv_LF_131 [.int x1, .int x2] [] (tg_0_1 _ h0k) (c_PI_numberOf (tg_0_1 _ h0k) x1 x2 σ) rfl rfl (by decide) (Nat.le_of_ble_eq_true rfl) d_LF_table_73 ?_
              refine j_goto (tgt := 80) C d_LF_table_76 (by decide) ?_
              exact k27
            refine j_nm (fun v28 v28_e => ?_)
            refine j_istore (lv9 := [(0, .ref (fad F k0)), (1, .int x1), (2, .int x2), (3, .int x3), (4, .int v28)]) C d_LF_table_80 rfl rfl (by decide) ?_
            refine j_iload C d_LF_table_82 4 rfl ?_
            refine j_iconst (v := (-1 : Int32)) C d_LF_table_84 (by decide) ?_
            refine j_join0m 96 (fun _ => [(0, .ref (fad F k0)), (1, .int x1), (2, .int x2), (3, .int x3), (4, .int v28)]) (fun _ => []) (fun σ46 => ?_) (fun K47 H48 => ?_)
            · refine j_aload_n C d_LF_table_96 0 rfl ?_
              refine j_getR C h0k fl_LF_25 rfl d_LF_table_97 ?_
              refine j_iload_n C d_LF_table_100 1 rfl ?_
              refine j_iload_n C d_LF_table_101 2 rfl ?_
              refine j_iload_n C d_LF_table_102 3 rfl ?_
              refine j_callVv C mv_LF_138 [.int x1, .int x2, .int x3] [] (tg_0_1 _ h0k) (c_PI_setNumber (tg_0_1 _ h0k) x1 x2 x3 σ46) rfl rfl (by decide) (Nat.le_of_ble_eq_true rfl) d_LF_table_103 ?_
              refine j_genM (fun σ49 => ?_)
              refine j_iload C d_LF_table_106 4 rfl ?_
              exact j_ireti C (fun ρ h => leaf_eq h) d_LF_table_108
            · refine j_icmp_ne (tgt := 96) C d_LF_table_85 (by decide) (fun c50 => ?_) (fun c50 => ?_)
              · exact H48 σ
              · refine j_aload_n C d_LF_table_88 0 rfl ?_
                refine j_getR C h0k fl_LF_25 rfl d_LF_table_89 ?_
                refine j_iload_n C d_LF_table_92 1 rfl ?_
                refine j_bind rfl (fun σ52 e51 => ?_)
                refine j_callVv C mv_LF_134 [.int x1] [] (tg_0_1 _ h0k) (c_PI_openTable (tg_0_1 _ h0k) x1 σ e51) rfl rfl (by decide) (Nat.le_of_ble_eq_true rfl) d_LF_table_93 ?_
                exact H48 σ52
          · exact j_throw C ox_LF_61_65 (List.mem_of_getElem? (i := 6) rfl) (by decide) (Nat.le_of_ble_eq_true rfl) d_LF_table_46 d_LF_table_49 d_LF_table_50 d_LF_table_52 d_LF_table_55 (fun ρ h => leaf_eq h)
    · exact j_throw C ox_LF_82_86 (List.mem_of_getElem? (i := 5) rfl) (by decide) (Nat.le_of_ble_eq_true rfl) d_LF_table_15 d_LF_table_18 d_LF_table_19 d_LF_table_21 d_LF_table_24 (fun ρ h => leaf_eq h)
  · refine j_callVx C mv_LF_75 [] [] h0k (ctr_xr e1 (c_LF_wantPicture h0k σ)) rfl rfl (by decide) (Nat.le_of_ble_eq_true rfl) d_LF_table_1 (fun ρ h => leaf_eq h)
theorem c_LF_table {l : Launch} {D : va_G} {G : GC} {ad : Nat → Nat} {k0 : Nat} (h0k : Is k0 0) (x1 : Int32) (x2 : Int32) (x3 : Int32) (σ : Mem) {q : (Int32 ⊕ Nat) × Mem} (hq : f_LF_table k0 x1 x2 x3 σ = some q) : Ctr l D G ad ⟨"LineFrames", "table", "(III)I"⟩ prog_1_method_5_code 5 (some .int) 7 110 [.ref (ad k0), .int x1, .int x2, .int x3] σ (xrIM q) := ctr_J (cv := (cvO cvXIM)) (E := f_LF_table k0 x1 x2 x3 σ) (by decide +kernel) (Nat.le_of_ble_eq_true rfl) (by rw [hq]; exact xrIM_ok _) (fun F h C => by subst h; exact w_LF_table C h0k x1 x2 x3 σ)
/-! LineFrames note (I)I -/
theorem d_LF_note_0 : decode prog_1_method_6_code 0 = .ok (.aload_n 0, 1) := by decide +kernel
theorem d_LF_note_1 : decode prog_1_method_6_code 1 = .ok (.invokevirtual 75, 3) := by decide +kernel
theorem d_LF_note_4 : decode prog_1_method_6_code 4 = .ok (.iload_n 1, 1) := by decide +kernel
theorem d_LF_note_5 : decode prog_1_method_6_code 5 = .ok (.ifCond .lt 9, 3) := by decide +kernel
theorem d_LF_note_8 : decode prog_1_method_6_code 8 = .ok (.iload_n 1, 1) := by decide +kernel
theorem d_LF_note_9 : decode prog_1_method_6_code 9 = .ok (.bipush 16, 2) := by decide +kernel
theorem d_LF_note_11 : decode prog_1_method_6_code 11 = .ok (.if_icmp .le 13, 3) := by decide +kernel
theorem d_LF_note_14 : decode prog_1_method_6_code 14 = .ok (.new 61, 3) := by decide +kernel
theorem d_LF_note_17 : decode prog_1_method_6_code 17 = .ok (.dup, 1) := by decide +kernel
theorem d_LF_note_18 : decode prog_1_method_6_code 18 = .ok (.ldc 142, 2) := by decide +kernel
theorem d_LF_note_20 : decode prog_1_method_6_code 20 = .ok (.invokespecial 65, 3) := by decide +kernel
theorem d_LF_note_23 : decode prog_1_method_6_code 23 = .ok (.athrow, 1) := by decide +kernel
theorem d_LF_note_24 : decode prog_1_method_6_code 24 = .ok (.aload_n 0, 1) := by decide +kernel
theorem d_LF_note_25 : decode prog_1_method_6_code 25 = .ok (.getfield 25, 3) := by decide +kernel
theorem d_LF_note_28 : decode prog_1_method_6_code 28 = .ok (.getfield 144, 3) := by decide +kernel
theorem d_LF_note_31 : decode prog_1_method_6_code 31 = .ok (.invokevirtual 148, 3) := by decide +kernel
theorem d_LF_note_34 : decode prog_1_method_6_code 34 = .ok (.ifCond .eq 13, 3) := by decide +kernel
theorem d_LF_note_37 : decode prog_1_method_6_code 37 = .ok (.new 154, 3) := by decide +kernel
theorem d_LF_note_40 : decode prog_1_method_6_code 40 = .ok (.dup, 1) := by decide +kernel
theorem d_LF_note_41 : decode prog_1_method_6_code 41 = .ok (.ldc 156, 2) := by decide +kernel
theorem d_LF_note_43 : decode prog_1_method_6_code 43 = .ok (.invokespecial 158, 3) := by decide +kernel
theorem d_LF_note_46 : decode prog_1_method_6_code 46 = .ok (.athrow, 1) := by decide +kernel
theorem d_LF_note_47 : decode prog_1_method_6_code 47 = .ok (.aload_n 0, 1) := by decide +kernel
theorem d_LF_note_48 : decode prog_1_method_6_code 48 = .ok (.getfield 25, 3) := by decide +kernel
theorem d_LF_note_51 : decode prog_1_method_6_code 51 = .ok (.getfield 144, 3) := by decide +kernel
theorem d_LF_note_54 : decode prog_1_method_6_code 54 = .ok (.iload_n 1, 1) := by decide +kernel
theorem d_LF_note_55 : decode prog_1_method_6_code 55 = .ok (.invokevirtual 159, 3) := by decide +kernel
theorem d_LF_note_58 : decode prog_1_method_6_code 58 = .ok (.ireturn, 1) := by decide +kernel
def f_LF_note (k0 : Nat) (x1 : Int32) (σ : Mem) : (Int32 ⊕ Nat) × Mem :=
  xcase (f_LF_wantPicture k0 σ) (fun _ =>
  if x1 < 0 then
  ((.inr 3), σ)
  else
  if x1 ≤ (16 : Int32) then
  if (f_NO_full (wtg (wtg k0 1) 4) σ) = 0 then
  lt (f_NO_open (wtg (wtg k0 1) 4) x1 σ) fun q15 =>
  ((.inl q15.1), q15.2)
  else
  ((.inr 4), σ)
  else
  ((.inr 3), σ)) (fun n => ((.inr n), σ))
set_option maxHeartbeats 4000000 in
set_option maxRecDepth 100000 in
theorem w_LF_note {F : Fx} (C : Ctx F prog_1_method_6_code 2 "LineFrames" (some .int) 7 110) {k0 : Nat} (h0k : Is k0 0) (x1 : Int32) (σ : Mem) : J F 2 cvXIM (f_LF_note k0 x1 σ) σ 0 [(0, .ref (fad F k0)), (1, .int x1)] [] := by
  unfold f_LF_note
  refine j_aload_n C d_LF_note_0 0 rfl ?_
  refine j_xcase (fun _ e1 => ?_) (fun n e1 => ?_)
  · refine j_callVv C mv_LF_75 [] [] h0k (ctr_xl e1 (c_LF_wantPicture h0k σ)) rfl rfl (by decide) (Nat.le_of_ble_eq_true rfl) d_LF_note_1 ?_
    refine j_iload_n C d_LF_note_4 1 rfl ?_
    refine j_if_lt (tgt := 14) C d_LF_note_5 (by decide) (fun c12 => ?_) (fun c12 => ?_)
    · exact j_throw C ox_LF_61_65 (List.mem_of_getElem? (i := 7) rfl) (by decide) (Nat.le_of_ble_eq_true rfl) d_LF_note_14 d_LF_note_17 d_LF_note_18 d_LF_note_20 d_LF_note_23 (fun ρ h => leaf_eq h)
    · refine j_iload_n C d_LF_note_8 1 rfl ?_
      refine j_bipush (v := (16 : Int32)) C d_LF_note_9 (by decide) ?_
      refine j_icmp_le (tgt := 24) C d_LF_note_11 (by decide) (fun c13 => ?_) (fun c13 => ?_)
      · refine j_aload_n C d_LF_note_24 0 rfl ?_
        refine j_getR C h0k fl_LF_25 rfl d_LF_note_25 ?_
        refine j_getR C (tg_0_1 _ h0k) fl_LF_144 rfl d_LF_note_28 ?_
        refine j_callVi C mv_LF_148 [] [] (tg_7_4 _ (tg_0_1 _ h0k)) (c_NO_full (tg_7_4 _ (tg_0_1 _ h0k)) σ) rfl rfl (by decide) (Nat.le_of_ble_eq_true rfl) d_LF_note_31 ?_
        refine j_if_eq (tgt := 47) C d_LF_note_34 (by decide) (fun c14 => ?_) (fun c14 => ?_)
        · refine j_aload_n C d_LF_note_47 0 rfl ?_
          refine j_getR C h0k fl_LF_25 rfl d_LF_note_48 ?_
          refine j_getR C (tg_0_1 _ h0k) fl_LF_144 rfl d_LF_note_51 ?_
          refine j_iload_n C d_LF_note_54 1 rfl ?_
          refine j_callVi C mv_LF_159 [.int x1] [] (tg_7_4 _ (tg_0_1 _ h0k)) (c_NO_open (tg_7_4 _ (tg_0_1 _ h0k)) x1 σ) rfl rfl (by decide) (Nat.le_of_ble_eq_true rfl) d_LF_note_55 ?_
          refine j_genIM (fun q15 => ?_)
          exact j_ireti C (fun ρ h => leaf_eq h) d_LF_note_58
        · exact j_throw C ox_LF_154_158 (List.mem_of_getElem? (i := 8) rfl) (by decide) (Nat.le_of_ble_eq_true rfl) d_LF_note_37 d_LF_note_40 d_LF_note_41 d_LF_note_43 d_LF_note_46 (fun ρ h => leaf_eq h)
      · exact j_throw C ox_LF_61_65 (List.mem_of_getElem? (i := 7) rfl) (by decide) (Nat.le_of_ble_eq_true rfl) d_LF_note_14 d_LF_note_17 d_LF_note_18 d_LF_note_20 d_LF_note_23 (fun ρ h => leaf_eq h)
  · refine j_callVx C mv_LF_75 [] [] h0k (ctr_xr e1 (c_LF_wantPicture h0k σ)) rfl rfl (by decide) (Nat.le_of_ble_eq_true rfl) d_LF_note_1 (fun ρ h => leaf_eq h)
theorem c_LF_note {l : Launch} {D : va_G} {G : GC} {ad : Nat → Nat} {k0 : Nat} (h0k : Is k0 0) (x1 : Int32) (σ : Mem) : Ctr l D G ad ⟨"LineFrames", "note", "(I)I"⟩ prog_1_method_6_code 2 (some .int) 7 110 [.ref (ad k0), .int x1] σ (xrIM (f_LF_note k0 x1 σ)) := ctr_J (cv := cvXIM) (E := f_LF_note k0 x1 σ) (by decide +kernel) (Nat.le_of_ble_eq_true rfl) (xrIM_ok _) (fun F h C => by subst h; exact w_LF_note C h0k x1 σ)
/-! LineFrames$Notes has (I)Z -/
theorem d_NO_has_0 : decode prog_7_method_4_code 0 = .ok (.iload_n 1, 1) := by decide +kernel
theorem d_NO_has_1 : decode prog_7_method_4_code 1 = .ok (.ifCond .lt 15, 3) := by decide +kernel
theorem d_NO_has_4 : decode prog_7_method_4_code 4 = .ok (.iload_n 1, 1) := by decide +kernel
theorem d_NO_has_5 : decode prog_7_method_4_code 5 = .ok (.aload_n 0, 1) := by decide +kernel
theorem d_NO_has_6 : decode prog_7_method_4_code 6 = .ok (.getfield 26, 3) := by decide +kernel
theorem d_NO_has_9 : decode prog_7_method_4_code 9 = .ok (.if_icmp .ge 7, 3) := by decide +kernel
theorem d_NO_has_12 : decode prog_7_method_4_code 12 = .ok (.iconst 1, 1) := by decide +kernel
theorem d_NO_has_13 : decode prog_7_method_4_code 13 = .ok (.goto 4, 3) := by decide +kernel
theorem d_NO_has_16 : decode prog_7_method_4_code 16 = .ok (.iconst 0, 1) := by decide +kernel
theorem d_NO_has_17 : decode prog_7_method_4_code 17 = .ok (.ireturn, 1) := by decide +kernel
def f_NO_has (k0 : Nat) (x1 : Int32) (σ : Mem) : Int32 :=
  (if x1 < 0 then (0 : Int32) else (if (σ k0 3) ≤ x1 then (0 : Int32) else (1 : Int32)))
set_option maxHeartbeats 4000000 in
set_option maxRecDepth 100000 in
theorem w_NO_has {F : Fx} (C : Ctx F prog_7_method_4_code 2 "LineFrames$Notes" (some .boolean) 0 0) {k0 : Nat} (h0k : Is k0 6) (x1 : Int32) (σ : Mem) : J F 2 (cvI σ) (f_NO_has k0 x1 σ) σ 0 [(0, .ref (fad F k0)), (1, .int x1)] [] := by
  unfold f_NO_has
  refine j_iload_n C d_NO_has_0 1 rfl ?_
  refine d_if_lt (a := (0 : Int32)) (b := (if (σ k0 3) ≤ x1 then (0 : Int32) else (1 : Int32))) (jp := 17) (tgt := 16) C d_NO_has_1 (by decide) (fun c3 k4 => ?_) (fun c3 k4 => ?_) ?_
  · refine j_iconst (v := (0 : Int32)) C d_NO_has_16 (by decide) ?_
    exact k4
  · refine j_iload_n C d_NO_has_4 1 rfl ?_
    refine j_aload_n C d_NO_has_5 0 rfl ?_
    refine j_getI C h0k fl_NO_26 rfl d_NO_has_6 ?_
    refine d_icmp_ge (a := (0 : Int32)) (b := (1 : Int32)) (jp := 17) (tgt := 16) C d_NO_has_9 (by decide) (fun c5 k6 => ?_) (fun c5 k6 => ?_) ?_
    · refine j_iconst (v := (0 : Int32)) C d_NO_has_16 (by decide) ?_
      exact k6
    · refine j_iconst (v := (1 : Int32)) C d_NO_has_12 (by decide) ?_
      refine j_goto (tgt := 17) C d_NO_has_13 (by decide) ?_
      exact k6
    exact k4
  exact j_iretz C (fun ρ h => leaf_eq h) (nz01 (ite01 (Or.inl rfl) (ite01 (Or.inl rfl) (Or.inr rfl)))) d_NO_has_17
theorem c_NO_has {l : Launch} {D : va_G} {G : GC} {ad : Nat → Nat} {k0 : Nat} (h0k : Is k0 6) (x1 : Int32) (σ : Mem) : Ctr l D G ad ⟨"LineFrames$Notes", "has", "(I)Z"⟩ prog_7_method_4_code 2 (some .boolean) 0 0 [.ref (ad k0), .int x1] σ (.inl (some (.int (f_NO_has k0 x1 σ))), σ) := ctr_J (cv := (cvI σ)) (E := f_NO_has k0 x1 σ) (by decide +kernel) (Nat.le_of_ble_eq_true rfl) rfl (fun F h C => by subst h; exact w_NO_has C h0k x1 σ)
theorem z_NO_has (k0 : Nat) (x1 : Int32) (σ : Mem) : f_NO_has k0 x1 σ = 0 ∨ f_NO_has k0 x1 σ = 1 := by
  unfold f_NO_has
  try simp only [lt]
  repeat' split
  all_goals first | exact Or.inl rfl | exact Or.inr rfl
/-! LineFrames wantByte (I)V -/
theorem d_LF_wantByte_0 : decode prog_1_method_21_code 0 = .ok (.iload_n 0, 1) := by decide +kernel
theorem d_LF_wantByte_1 : decode prog_1_method_21_code 1 = .ok (.ifCond .lt 10, 3) := by decide +kernel
theorem d_LF_wantByte_4 : decode prog_1_method_21_code 4 = .ok (.iload_n 0, 1) := by decide +kernel
theorem d_LF_wantByte_5 : decode prog_1_method_21_code 5 = .ok (.sipush 255, 3) := by decide +kernel
theorem d_LF_wantByte_8 : decode prog_1_method_21_code 8 = .ok (.if_icmp .le 14, 3) := by decide +kernel
theorem d_LF_wantByte_11 : decode prog_1_method_21_code 11 = .ok (.new 61, 3) := by decide +kernel
theorem d_LF_wantByte_14 : decode prog_1_method_21_code 14 = .ok (.dup, 1) := by decide +kernel
theorem d_LF_wantByte_15 : decode prog_1_method_21_code 15 = .ok (.ldc_w 278, 3) := by decide +kernel
theorem d_LF_wantByte_18 : decode prog_1_method_21_code 18 = .ok (.invokespecial 65, 3) := by decide +kernel
theorem d_LF_wantByte_21 : decode prog_1_method_21_code 21 = .ok (.athrow, 1) := by decide +kernel
theorem d_LF_wantByte_22 : decode prog_1_method_21_code 22 = .ok (.return_, 1) := by decide +kernel
def f_LF_wantByte (x0 : Int32) (σ : Mem) : (Unit ⊕ Nat) :=
  if x0 < 0 then
  (.inr 3)
  else
  if x0 ≤ (255 : Int32) then
  .inl ()
  else
  (.inr 3)
set_option maxHeartbeats 4000000 in
set_option maxRecDepth 100000 in
theorem w_LF_wantByte {F : Fx} (C : Ctx F prog_1_method_21_code 1 "LineFrames" none 6 90) (x0 : Int32) (σ : Mem) : J F 1 (cvXV σ) (f_LF_wantByte x0 σ) σ 0 [(0, .int x0)] [] := by
  unfold f_LF_wantByte
  refine j_iload_n C d_LF_wantByte_0 0 rfl ?_
  refine j_if_lt (tgt := 11) C d_LF_wantByte_1 (by decide) (fun c11 => ?_) (fun c11 => ?_)
  · exact j_throwW C ox_LF_61_65 (List.mem_of_getElem? (i := 10) rfl) (by decide) (Nat.le_of_ble_eq_true rfl) d_LF_wantByte_11 d_LF_wantByte_14 d_LF_wantByte_15 d_LF_wantByte_18 d_LF_wantByte_21 (fun ρ h => leaf_eq h)
  · refine j_iload_n C d_LF_wantByte_4 0 rfl ?_
    refine j_sipush (v := (255 : Int32)) C d_LF_wantByte_5 (by decide) ?_
    refine j_icmp_le (tgt := 22) C d_LF_wantByte_8 (by decide) (fun c12 => ?_) (fun c12 => ?_)
    · exact j_vret C (fun ρ h => leaf_eq h) d_LF_wantByte_22
    · exact j_throwW C ox_LF_61_65 (List.mem_of_getElem? (i := 10) rfl) (by decide) (Nat.le_of_ble_eq_true rfl) d_LF_wantByte_11 d_LF_wantByte_14 d_LF_wantByte_15 d_LF_wantByte_18 d_LF_wantByte_21 (fun ρ h => leaf_eq h)
theorem c_LF_wantByte {l : Launch} {D : va_G} {G : GC} {ad : Nat → Nat} (x0 : Int32) (σ : Mem) : Ctr l D G ad ⟨"LineFrames", "wantByte", "(I)V"⟩ prog_1_method_21_code 1 none 6 90 [.int x0] σ (xrV (f_LF_wantByte x0 σ) σ) := ctr_J (cv := (cvXV σ)) (E := f_LF_wantByte x0 σ) (by decide +kernel) (Nat.le_of_ble_eq_true rfl) (xrV_ok _ _) (fun F h C => by subst h; exact w_LF_wantByte C x0 σ)
/-! LineFrames$Notes sizeOf (I)I -/
theorem d_NO_sizeOf_0 : decode prog_7_method_6_code 0 = .ok (.aload_n 0, 1) := by decide +kernel
theorem d_NO_sizeOf_1 : decode prog_7_method_6_code 1 = .ok (.getfield 20, 3) := by decide +kernel
theorem d_NO_sizeOf_4 : decode prog_7_method_6_code 4 = .ok (.iload_n 1, 1) := by decide +kernel
theorem d_NO_sizeOf_5 : decode prog_7_method_6_code 5 = .ok (.invokevirtual 30, 3) := by decide +kernel
theorem d_NO_sizeOf_8 : decode prog_7_method_6_code 8 = .ok (.ireturn, 1) := by decide +kernel
def f_NO_sizeOf (k0 : Nat) (x1 : Int32) (σ : Mem) : Int32 :=
  (f_RO_get (wtg k0 1) x1 σ)
set_option maxHeartbeats 4000000 in
set_option maxRecDepth 100000 in
theorem w_NO_sizeOf {F : Fx} (C : Ctx F prog_7_method_6_code 2 "LineFrames$Notes" (some .int) 1 21) {k0 : Nat} (h0k : Is k0 6) (x1 : Int32) (σ : Mem) : J F 2 (cvI σ) (f_NO_sizeOf k0 x1 σ) σ 0 [(0, .ref (fad F k0)), (1, .int x1)] [] := by
  unfold f_NO_sizeOf
  refine j_aload_n C d_NO_sizeOf_0 0 rfl ?_
  refine j_getR C h0k fl_NO_20 rfl d_NO_sizeOf_1 ?_
  refine j_iload_n C d_NO_sizeOf_4 1 rfl ?_
  refine j_callVi C mv_NO_30 [.int x1] [] (tg_6_1 _ h0k) (c_RO_get (tg_6_1 _ h0k) x1 σ) rfl rfl (by decide) (Nat.le_of_ble_eq_true rfl) d_NO_sizeOf_5 ?_
  exact j_ireti C (fun ρ h => leaf_eq h) d_NO_sizeOf_8
theorem c_NO_sizeOf {l : Launch} {D : va_G} {G : GC} {ad : Nat → Nat} {k0 : Nat} (h0k : Is k0 6) (x1 : Int32) (σ : Mem) : Ctr l D G ad ⟨"LineFrames$Notes", "sizeOf", "(I)I"⟩ prog_7_method_6_code 2 (some .int) 1 21 [.ref (ad k0), .int x1] σ (.inl (some (.int (f_NO_sizeOf k0 x1 σ))), σ) := ctr_J (cv := (cvI σ)) (E := f_NO_sizeOf k0 x1 σ) (by decide +kernel) (Nat.le_of_ble_eq_true rfl) rfl (fun F h C => by subst h; exact w_NO_sizeOf C h0k x1 σ)
/-! LineFrames byteOf (II)I -/
theorem d_LF_byteOf_0 : decode prog_1_method_7_code 0 = .ok (.aload_n 0, 1) := by decide +kernel
theorem d_LF_byteOf_1 : decode prog_1_method_7_code 1 = .ok (.invokevirtual 75, 3) := by decide +kernel
theorem d_LF_byteOf_4 : decode prog_1_method_7_code 4 = .ok (.aload_n 0, 1) := by decide +kernel
theorem d_LF_byteOf_5 : decode prog_1_method_7_code 5 = .ok (.getfield 25, 3) := by decide +kernel
theorem d_LF_byteOf_8 : decode prog_1_method_7_code 8 = .ok (.getfield 144, 3) := by decide +kernel
theorem d_LF_byteOf_11 : decode prog_1_method_7_code 11 = .ok (.iload_n 1, 1) := by decide +kernel
theorem d_LF_byteOf_12 : decode prog_1_method_7_code 12 = .ok (.invokevirtual 162, 3) := by decide +kernel
theorem d_LF_byteOf_15 : decode prog_1_method_7_code 15 = .ok (.ifCond .ne 13, 3) := by decide +kernel
theorem d_LF_byteOf_18 : decode prog_1_method_7_code 18 = .ok (.new 82, 3) := by decide +kernel
theorem d_LF_byteOf_21 : decode prog_1_method_7_code 21 = .ok (.dup, 1) := by decide +kernel
theorem d_LF_byteOf_22 : decode prog_1_method_7_code 22 = .ok (.ldc 165, 2) := by decide +kernel
theorem d_LF_byteOf_24 : decode prog_1_method_7_code 24 = .ok (.invokespecial 86, 3) := by decide +kernel
theorem d_LF_byteOf_27 : decode prog_1_method_7_code 27 = .ok (.athrow, 1) := by decide +kernel
theorem d_LF_byteOf_28 : decode prog_1_method_7_code 28 = .ok (.iload_n 2, 1) := by decide +kernel
theorem d_LF_byteOf_29 : decode prog_1_method_7_code 29 = .ok (.invokestatic 167, 3) := by decide +kernel
theorem d_LF_byteOf_32 : decode prog_1_method_7_code 32 = .ok (.aload_n 0, 1) := by decide +kernel
theorem d_LF_byteOf_33 : decode prog_1_method_7_code 33 = .ok (.getfield 25, 3) := by decide +kernel
theorem d_LF_byteOf_36 : decode prog_1_method_7_code 36 = .ok (.getfield 144, 3) := by decide +kernel
theorem d_LF_byteOf_39 : decode prog_1_method_7_code 39 = .ok (.iload_n 1, 1) := by decide +kernel
theorem d_LF_byteOf_40 : decode prog_1_method_7_code 40 = .ok (.invokevirtual 170, 3) := by decide +kernel
theorem d_LF_byteOf_43 : decode prog_1_method_7_code 43 = .ok (.bipush 30, 2) := by decide +kernel
theorem d_LF_byteOf_45 : decode prog_1_method_7_code 45 = .ok (.if_icmp .lt 13, 3) := by decide +kernel
theorem d_LF_byteOf_48 : decode prog_1_method_7_code 48 = .ok (.new 154, 3) := by decide +kernel
theorem d_LF_byteOf_51 : decode prog_1_method_7_code 51 = .ok (.dup, 1) := by decide +kernel
theorem d_LF_byteOf_52 : decode prog_1_method_7_code 52 = .ok (.ldc 173, 2) := by decide +kernel
theorem d_LF_byteOf_54 : decode prog_1_method_7_code 54 = .ok (.invokespecial 158, 3) := by decide +kernel
theorem d_LF_byteOf_57 : decode prog_1_method_7_code 57 = .ok (.athrow, 1) := by decide +kernel
theorem d_LF_byteOf_58 : decode prog_1_method_7_code 58 = .ok (.aload_n 0, 1) := by decide +kernel
theorem d_LF_byteOf_59 : decode prog_1_method_7_code 59 = .ok (.getfield 25, 3) := by decide +kernel
theorem d_LF_byteOf_62 : decode prog_1_method_7_code 62 = .ok (.getfield 144, 3) := by decide +kernel
theorem d_LF_byteOf_65 : decode prog_1_method_7_code 65 = .ok (.iload_n 1, 1) := by decide +kernel
theorem d_LF_byteOf_66 : decode prog_1_method_7_code 66 = .ok (.iload_n 2, 1) := by decide +kernel
theorem d_LF_byteOf_67 : decode prog_1_method_7_code 67 = .ok (.invokevirtual 175, 3) := by decide +kernel
theorem d_LF_byteOf_70 : decode prog_1_method_7_code 70 = .ok (.ireturn, 1) := by decide +kernel
def f_LF_byteOf (k0 : Nat) (x1 : Int32) (x2 : Int32) (σ : Mem) : (Int32 ⊕ Nat) × Mem :=
  xcase (f_LF_wantPicture k0 σ) (fun _ =>
  if (f_NO_has (wtg (wtg k0 1) 4) x1 σ) = 0 then
  ((.inr 2), σ)
  else
  xcase (f_LF_wantByte x2 σ) (fun _ =>
  if (f_NO_sizeOf (wtg (wtg k0 1) 4) x1 σ) < (30 : Int32) then
  lt (f_NO_append (wtg (wtg k0 1) 4) x1 x2 σ) fun q5 =>
  ((.inl q5.1), q5.2)
  else
  ((.inr 4), σ)) (fun n => ((.inr n), σ))) (fun n => ((.inr n), σ))
set_option maxHeartbeats 4000000 in
set_option maxRecDepth 100000 in
theorem w_LF_byteOf {F : Fx} (C : Ctx F prog_1_method_7_code 3 "LineFrames" (some .int) 7 110) {k0 : Nat} (h0k : Is k0 0) (x1 : Int32) (x2 : Int32) (σ : Mem) : J F 3 cvXIM (f_LF_byteOf k0 x1 x2 σ) σ 0 [(0, .ref (fad F k0)), (1, .int x1), (2, .int x2)] [] := by
  unfold f_LF_byteOf
  refine j_aload_n C d_LF_byteOf_0 0 rfl ?_
  refine j_xcase (fun _ e1 => ?_) (fun n e1 => ?_)
  · refine j_callVv C mv_LF_75 [] [] h0k (ctr_xl e1 (c_LF_wantPicture h0k σ)) rfl rfl (by decide) (Nat.le_of_ble_eq_true rfl) d_LF_byteOf_1 ?_
    refine j_aload_n C d_LF_byteOf_4 0 rfl ?_
    refine j_getR C h0k fl_LF_25 rfl d_LF_byteOf_5 ?_
    refine j_getR C (tg_0_1 _ h0k) fl_LF_144 rfl d_LF_byteOf_8 ?_
    refine j_iload_n C d_LF_byteOf_11 1 rfl ?_
    refine j_callVi C mv_LF_162 [.int x1] [] (tg_7_4 _ (tg_0_1 _ h0k)) (c_NO_has (tg_7_4 _ (tg_0_1 _ h0k)) x1 σ) rfl rfl (by decide) (Nat.le_of_ble_eq_true rfl) d_LF_byteOf_12 ?_
    refine j_if_ne (tgt := 28) C d_LF_byteOf_15 (by decide) (fun c2 => ?_) (fun c2 => ?_)
    · refine j_iload_n C d_LF_byteOf_28 2 rfl ?_
      refine j_xcase (fun _ e3 => ?_) (fun n e3 => ?_)
      · refine j_callSv C ms_LF_167 [.int x2] [] (ctr_xl e3 (c_LF_wantByte x2 σ)) rfl rfl (by decide) (Nat.le_of_ble_eq_true rfl) d_LF_byteOf_29 ?_
        refine j_aload_n C d_LF_byteOf_32 0 rfl ?_
        refine j_getR C h0k fl_LF_25 rfl d_LF_byteOf_33 ?_
        refine j_getR C (tg_0_1 _ h0k) fl_LF_144 rfl d_LF_byteOf_36 ?_
        refine j_iload_n C d_LF_byteOf_39 1 rfl ?_
        refine j_callVi C mv_LF_170 [.int x1] [] (tg_7_4 _ (tg_0_1 _ h0k)) (c_NO_sizeOf (tg_7_4 _ (tg_0_1 _ h0k)) x1 σ) rfl rfl (by decide) (Nat.le_of_ble_eq_true rfl) d_LF_byteOf_40 ?_
        refine j_bipush (v := (30 : Int32)) C d_LF_byteOf_43 (by decide) ?_
        refine j_icmp_lt (tgt := 58) C d_LF_byteOf_45 (by decide) (fun c4 => ?_) (fun c4 => ?_)
        · refine j_aload_n C d_LF_byteOf_58 0 rfl ?_
          refine j_getR C h0k fl_LF_25 rfl d_LF_byteOf_59 ?_
          refine j_getR C (tg_0_1 _ h0k) fl_LF_144 rfl d_LF_byteOf_62 ?_
          refine j_iload_n C d_LF_byteOf_65 1 rfl ?_
          refine j_iload_n C d_LF_byteOf_66 2 rfl ?_
          refine j_callVi C mv_LF_175 [.int x1, .int x2] [] (tg_7_4 _ (tg_0_1 _ h0k)) (c_NO_append (tg_7_4 _ (tg_0_1 _ h0k)) x1 x2 σ) rfl rfl (by decide) (Nat.le_of_ble_eq_true rfl) d_LF_byteOf_67 ?_
          refine j_genIM (fun q5 => ?_)
          exact j_ireti C (fun ρ h => leaf_eq h) d_LF_byteOf_70
        · exact j_throw C ox_LF_154_158 (List.mem_of_getElem? (i := 11) rfl) (by decide) (Nat.le_of_ble_eq_true rfl) d_LF_byteOf_48 d_LF_byteOf_51 d_LF_byteOf_52 d_LF_byteOf_54 d_LF_byteOf_57 (fun ρ h => leaf_eq h)
      · refine j_callSx C ms_LF_167 [.int x2] [] (ctr_xr e3 (c_LF_wantByte x2 σ)) rfl rfl (by decide) (Nat.le_of_ble_eq_true rfl) d_LF_byteOf_29 (fun ρ h => leaf_eq h)
    · exact j_throw C ox_LF_82_86 (List.mem_of_getElem? (i := 9) rfl) (by decide) (Nat.le_of_ble_eq_true rfl) d_LF_byteOf_18 d_LF_byteOf_21 d_LF_byteOf_22 d_LF_byteOf_24 d_LF_byteOf_27 (fun ρ h => leaf_eq h)
  · refine j_callVx C mv_LF_75 [] [] h0k (ctr_xr e1 (c_LF_wantPicture h0k σ)) rfl rfl (by decide) (Nat.le_of_ble_eq_true rfl) d_LF_byteOf_1 (fun ρ h => leaf_eq h)
theorem c_LF_byteOf {l : Launch} {D : va_G} {G : GC} {ad : Nat → Nat} {k0 : Nat} (h0k : Is k0 0) (x1 : Int32) (x2 : Int32) (σ : Mem) : Ctr l D G ad ⟨"LineFrames", "byteOf", "(II)I"⟩ prog_1_method_7_code 3 (some .int) 7 110 [.ref (ad k0), .int x1, .int x2] σ (xrIM (f_LF_byteOf k0 x1 x2 σ)) := ctr_J (cv := cvXIM) (E := f_LF_byteOf k0 x1 x2 σ) (by decide +kernel) (Nat.le_of_ble_eq_true rfl) (xrIM_ok _) (fun F h C => by subst h; exact w_LF_byteOf C h0k x1 x2 σ)
/-! LineFrames$Bytes add (I)V -/
theorem d_BY_add_0 : decode prog_4_method_8_code 0 = .ok (.aload_n 0, 1) := by decide +kernel
theorem d_BY_add_1 : decode prog_4_method_8_code 1 = .ok (.getfield 15, 3) := by decide +kernel
theorem d_BY_add_4 : decode prog_4_method_8_code 4 = .ok (.ifCond .lt 35, 3) := by decide +kernel
theorem d_BY_add_7 : decode prog_4_method_8_code 7 = .ok (.aload_n 0, 1) := by decide +kernel
theorem d_BY_add_8 : decode prog_4_method_8_code 8 = .ok (.getfield 15, 3) := by decide +kernel
theorem d_BY_add_11 : decode prog_4_method_8_code 11 = .ok (.aload_n 0, 1) := by decide +kernel
theorem d_BY_add_12 : decode prog_4_method_8_code 12 = .ok (.getfield 9, 3) := by decide +kernel
theorem d_BY_add_15 : decode prog_4_method_8_code 15 = .ok (.arraylength, 1) := by decide +kernel
theorem d_BY_add_16 : decode prog_4_method_8_code 16 = .ok (.if_icmp .ge 23, 3) := by decide +kernel
theorem d_BY_add_19 : decode prog_4_method_8_code 19 = .ok (.aload_n 0, 1) := by decide +kernel
theorem d_BY_add_20 : decode prog_4_method_8_code 20 = .ok (.getfield 9, 3) := by decide +kernel
theorem d_BY_add_23 : decode prog_4_method_8_code 23 = .ok (.aload_n 0, 1) := by decide +kernel
theorem d_BY_add_24 : decode prog_4_method_8_code 24 = .ok (.getfield 15, 3) := by decide +kernel
theorem d_BY_add_27 : decode prog_4_method_8_code 27 = .ok (.iload_n 1, 1) := by decide +kernel
theorem d_BY_add_28 : decode prog_4_method_8_code 28 = .ok (.iastore, 1) := by decide +kernel
theorem d_BY_add_29 : decode prog_4_method_8_code 29 = .ok (.aload_n 0, 1) := by decide +kernel
theorem d_BY_add_30 : decode prog_4_method_8_code 30 = .ok (.dup, 1) := by decide +kernel
theorem d_BY_add_31 : decode prog_4_method_8_code 31 = .ok (.getfield 15, 3) := by decide +kernel
theorem d_BY_add_34 : decode prog_4_method_8_code 34 = .ok (.iconst 1, 1) := by decide +kernel
theorem d_BY_add_35 : decode prog_4_method_8_code 35 = .ok (.iadd, 1) := by decide +kernel
theorem d_BY_add_36 : decode prog_4_method_8_code 36 = .ok (.putfield 15, 3) := by decide +kernel
theorem d_BY_add_39 : decode prog_4_method_8_code 39 = .ok (.return_, 1) := by decide +kernel
def f_BY_add (k0 : Nat) (x1 : Int32) (σ : Mem) : Mem :=
  if (σ k0 1) < 0 then
  σ
  else
  if (nI (wln (wtg k0 0))) ≤ (σ k0 1) then
  σ
  else
  lt (mput σ (wtg k0 0) (σ k0 1).toNatClampNeg x1) fun σ7 =>
  lt (mput σ7 k0 1 ((σ7 k0 1) + (1 : Int32))) fun σ8 =>
  σ8
set_option maxHeartbeats 4000000 in
set_option maxRecDepth 100000 in
theorem w_BY_add {F : Fx} (C : Ctx F prog_4_method_8_code 2 "LineFrames$Bytes" none 0 0) {k0 : Nat} (h0k : Is k0 3) (x1 : Int32) (σ : Mem) : J F 2 cvM (f_BY_add k0 x1 σ) σ 0 [(0, .ref (fad F k0)), (1, .int x1)] [] := by
  unfold f_BY_add
  refine j_aload_n C d_BY_add_0 0 rfl ?_
  refine j_getI C h0k fl_BY_15 rfl d_BY_add_1 ?_
  refine j_if_lt (tgt := 39) C d_BY_add_4 (by decide) (fun c3 => ?_) (fun c3 => ?_)
  · exact j_vret C (fun ρ h => leaf_eq h) d_BY_add_39
  · refine j_aload_n C d_BY_add_7 0 rfl ?_
    refine j_getI C h0k fl_BY_15 rfl d_BY_add_8 ?_
    refine j_aload_n C d_BY_add_11 0 rfl ?_
    refine j_getR C h0k fl_BY_9 rfl d_BY_add_12 ?_
    refine j_alen C (tg_3_0 _ h0k) d_BY_add_15 ?_
    refine j_icmp_ge (tgt := 39) C d_BY_add_16 (by decide) (fun c6 => ?_) (fun c6 => ?_)
    · exact j_vret C (fun ρ h => leaf_eq h) d_BY_add_39
    · refine j_aload_n C d_BY_add_19 0 rfl ?_
      refine j_getR C h0k fl_BY_9 rfl d_BY_add_20 ?_
      refine j_aload_n C d_BY_add_23 0 rfl ?_
      refine j_getI C h0k fl_BY_15 rfl d_BY_add_24 ?_
      refine j_iload_n C d_BY_add_27 1 rfl ?_
      refine j_iast C (tg_3_0 _ h0k) (vp_gd c3 c6 (wln_lt _)) d_BY_add_28 (fun σ7 => ?_)
      refine j_aload_n C d_BY_add_29 0 rfl ?_
      refine j_dup C d_BY_add_30 rfl ?_
      refine j_getI C h0k fl_BY_15 rfl d_BY_add_31 ?_
      refine j_iconst (v := (1 : Int32)) C d_BY_add_34 (by decide) ?_
      refine j_iadd C d_BY_add_35 ?_
      refine j_put C h0k fl_BY_15 fw_3_1 rfl rfl rfl d_BY_add_36 (fun σ8 => ?_)
      exact j_vret C (fun ρ h => leaf_eq h) d_BY_add_39
theorem c_BY_add {l : Launch} {D : va_G} {G : GC} {ad : Nat → Nat} {k0 : Nat} (h0k : Is k0 3) (x1 : Int32) (σ : Mem) : Ctr l D G ad ⟨"LineFrames$Bytes", "add", "(I)V"⟩ prog_4_method_8_code 2 none 0 0 [.ref (ad k0), .int x1] σ (.inl none, (f_BY_add k0 x1 σ)) := ctr_J (cv := cvM) (E := f_BY_add k0 x1 σ) (by decide +kernel) (Nat.le_of_ble_eq_true rfl) rfl (fun F h C => by subst h; exact w_BY_add C h0k x1 σ)
/-! LineFrames$StreamWriter mark (I)V -/
theorem d_SW_mark_0 : decode prog_11_method_3_code 0 = .ok (.aload_n 0, 1) := by decide +kernel
theorem d_SW_mark_1 : decode prog_11_method_3_code 1 = .ok (.getfield 29, 3) := by decide +kernel
theorem d_SW_mark_4 : decode prog_11_method_3_code 4 = .ok (.sipush 255, 3) := by decide +kernel
theorem d_SW_mark_7 : decode prog_11_method_3_code 7 = .ok (.invokevirtual 75, 3) := by decide +kernel
theorem d_SW_mark_10 : decode prog_11_method_3_code 10 = .ok (.aload_n 0, 1) := by decide +kernel
theorem d_SW_mark_11 : decode prog_11_method_3_code 11 = .ok (.getfield 29, 3) := by decide +kernel
theorem d_SW_mark_14 : decode prog_11_method_3_code 14 = .ok (.iload_n 1, 1) := by decide +kernel
theorem d_SW_mark_15 : decode prog_11_method_3_code 15 = .ok (.invokevirtual 75, 3) := by decide +kernel
theorem d_SW_mark_18 : decode prog_11_method_3_code 18 = .ok (.return_, 1) := by decide +kernel
def f_SW_mark (k0 : Nat) (x1 : Int32) (σ : Mem) : Mem :=
  lt (f_BY_add (wtg k0 1) (255 : Int32) σ) fun σ1 =>
  lt (f_BY_add (wtg k0 1) x1 σ1) fun σ2 =>
  σ2
set_option maxHeartbeats 4000000 in
set_option maxRecDepth 100000 in
theorem w_SW_mark {F : Fx} (C : Ctx F prog_11_method_3_code 2 "LineFrames$StreamWriter" none 1 21) {k0 : Nat} (h0k : Is k0 10) (x1 : Int32) (σ : Mem) : J F 2 cvM (f_SW_mark k0 x1 σ) σ 0 [(0, .ref (fad F k0)), (1, .int x1)] [] := by
  unfold f_SW_mark
  refine j_aload_n C d_SW_mark_0 0 rfl ?_
  refine j_getR C h0k fl_SW_29 rfl d_SW_mark_1 ?_
  refine j_sipush (v := (255 : Int32)) C d_SW_mark_4 (by decide) ?_
  refine j_callVv C mv_SW_75 [.int (255 : Int32)] [] (tg_10_1 _ h0k) (c_BY_add (tg_10_1 _ h0k) (255 : Int32) σ) rfl rfl (by decide) (Nat.le_of_ble_eq_true rfl) d_SW_mark_7 ?_
  refine j_genM (fun σ1 => ?_)
  refine j_aload_n C d_SW_mark_10 0 rfl ?_
  refine j_getR C h0k fl_SW_29 rfl d_SW_mark_11 ?_
  refine j_iload_n C d_SW_mark_14 1 rfl ?_
  refine j_callVv C mv_SW_75 [.int x1] [] (tg_10_1 _ h0k) (c_BY_add (tg_10_1 _ h0k) x1 σ1) rfl rfl (by decide) (Nat.le_of_ble_eq_true rfl) d_SW_mark_15 ?_
  refine j_genM (fun σ2 => ?_)
  exact j_vret C (fun ρ h => leaf_eq h) d_SW_mark_18
theorem c_SW_mark {l : Launch} {D : va_G} {G : GC} {ad : Nat → Nat} {k0 : Nat} (h0k : Is k0 10) (x1 : Int32) (σ : Mem) : Ctr l D G ad ⟨"LineFrames$StreamWriter", "mark", "(I)V"⟩ prog_11_method_3_code 2 none 1 21 [.ref (ad k0), .int x1] σ (.inl none, (f_SW_mark k0 x1 σ)) := ctr_J (cv := cvM) (E := f_SW_mark k0 x1 σ) (by decide +kernel) (Nat.le_of_ble_eq_true rfl) rfl (fun F h C => by subst h; exact w_SW_mark C h0k x1 σ)
/-! LineFrames$Notes kindOf (I)I -/
theorem d_NO_kindOf_0 : decode prog_7_method_5_code 0 = .ok (.aload_n 0, 1) := by decide +kernel
theorem d_NO_kindOf_1 : decode prog_7_method_5_code 1 = .ok (.getfield 14, 3) := by decide +kernel
theorem d_NO_kindOf_4 : decode prog_7_method_5_code 4 = .ok (.iload_n 1, 1) := by decide +kernel
theorem d_NO_kindOf_5 : decode prog_7_method_5_code 5 = .ok (.invokevirtual 30, 3) := by decide +kernel
theorem d_NO_kindOf_8 : decode prog_7_method_5_code 8 = .ok (.ireturn, 1) := by decide +kernel
def f_NO_kindOf (k0 : Nat) (x1 : Int32) (σ : Mem) : Int32 :=
  (f_RO_get (wtg k0 0) x1 σ)
set_option maxHeartbeats 4000000 in
set_option maxRecDepth 100000 in
theorem w_NO_kindOf {F : Fx} (C : Ctx F prog_7_method_5_code 2 "LineFrames$Notes" (some .int) 1 21) {k0 : Nat} (h0k : Is k0 6) (x1 : Int32) (σ : Mem) : J F 2 (cvI σ) (f_NO_kindOf k0 x1 σ) σ 0 [(0, .ref (fad F k0)), (1, .int x1)] [] := by
  unfold f_NO_kindOf
  refine j_aload_n C d_NO_kindOf_0 0 rfl ?_
  refine j_getR C h0k fl_NO_14 rfl d_NO_kindOf_1 ?_
  refine j_iload_n C d_NO_kindOf_4 1 rfl ?_
  refine j_callVi C mv_NO_30 [.int x1] [] (tg_6_0 _ h0k) (c_RO_get (tg_6_0 _ h0k) x1 σ) rfl rfl (by decide) (Nat.le_of_ble_eq_true rfl) d_NO_kindOf_5 ?_
  exact j_ireti C (fun ρ h => leaf_eq h) d_NO_kindOf_8
theorem c_NO_kindOf {l : Launch} {D : va_G} {G : GC} {ad : Nat → Nat} {k0 : Nat} (h0k : Is k0 6) (x1 : Int32) (σ : Mem) : Ctr l D G ad ⟨"LineFrames$Notes", "kindOf", "(I)I"⟩ prog_7_method_5_code 2 (some .int) 1 21 [.ref (ad k0), .int x1] σ (.inl (some (.int (f_NO_kindOf k0 x1 σ))), σ) := ctr_J (cv := (cvI σ)) (E := f_NO_kindOf k0 x1 σ) (by decide +kernel) (Nat.le_of_ble_eq_true rfl) rfl (fun F h C => by subst h; exact w_NO_kindOf C h0k x1 σ)
/-! LineFrames$Bytes addWide (I)V -/
theorem d_BY_addWide_0 : decode prog_4_method_9_code 0 = .ok (.aload_n 0, 1) := by decide +kernel
theorem d_BY_addWide_1 : decode prog_4_method_9_code 1 = .ok (.iload_n 1, 1) := by decide +kernel
theorem d_BY_addWide_2 : decode prog_4_method_9_code 2 = .ok (.bipush 8, 2) := by decide +kernel
theorem d_BY_addWide_4 : decode prog_4_method_9_code 4 = .ok (.ishr, 1) := by decide +kernel
theorem d_BY_addWide_5 : decode prog_4_method_9_code 5 = .ok (.invokevirtual 23, 3) := by decide +kernel
theorem d_BY_addWide_8 : decode prog_4_method_9_code 8 = .ok (.aload_n 0, 1) := by decide +kernel
theorem d_BY_addWide_9 : decode prog_4_method_9_code 9 = .ok (.iload_n 1, 1) := by decide +kernel
theorem d_BY_addWide_10 : decode prog_4_method_9_code 10 = .ok (.sipush 255, 3) := by decide +kernel
theorem d_BY_addWide_13 : decode prog_4_method_9_code 13 = .ok (.iand, 1) := by decide +kernel
theorem d_BY_addWide_14 : decode prog_4_method_9_code 14 = .ok (.invokevirtual 23, 3) := by decide +kernel
theorem d_BY_addWide_17 : decode prog_4_method_9_code 17 = .ok (.return_, 1) := by decide +kernel
def f_BY_addWide (k0 : Nat) (x1 : Int32) (σ : Mem) : Mem :=
  lt (f_BY_add k0 (x1 >>> ((8 : Int32) &&& 31)) σ) fun σ1 =>
  lt (f_BY_add k0 (x1 &&& (255 : Int32)) σ1) fun σ2 =>
  σ2
set_option maxHeartbeats 4000000 in
set_option maxRecDepth 100000 in
theorem w_BY_addWide {F : Fx} (C : Ctx F prog_4_method_9_code 2 "LineFrames$Bytes" none 1 21) {k0 : Nat} (h0k : Is k0 3) (x1 : Int32) (σ : Mem) : J F 2 cvM (f_BY_addWide k0 x1 σ) σ 0 [(0, .ref (fad F k0)), (1, .int x1)] [] := by
  unfold f_BY_addWide
  refine j_aload_n C d_BY_addWide_0 0 rfl ?_
  refine j_iload_n C d_BY_addWide_1 1 rfl ?_
  refine j_bipush (v := (8 : Int32)) C d_BY_addWide_2 (by decide) ?_
  refine j_ishr C d_BY_addWide_4 ?_
  refine j_callVv C mv_BY_23 [.int (x1 >>> ((8 : Int32) &&& 31))] [] h0k (c_BY_add h0k (x1 >>> ((8 : Int32) &&& 31)) σ) rfl rfl (by decide) (Nat.le_of_ble_eq_true rfl) d_BY_addWide_5 ?_
  refine j_genM (fun σ1 => ?_)
  refine j_aload_n C d_BY_addWide_8 0 rfl ?_
  refine j_iload_n C d_BY_addWide_9 1 rfl ?_
  refine j_sipush (v := (255 : Int32)) C d_BY_addWide_10 (by decide) ?_
  refine j_iand C d_BY_addWide_13 ?_
  refine j_callVv C mv_BY_23 [.int (x1 &&& (255 : Int32))] [] h0k (c_BY_add h0k (x1 &&& (255 : Int32)) σ1) rfl rfl (by decide) (Nat.le_of_ble_eq_true rfl) d_BY_addWide_14 ?_
  refine j_genM (fun σ2 => ?_)
  exact j_vret C (fun ρ h => leaf_eq h) d_BY_addWide_17
theorem c_BY_addWide {l : Launch} {D : va_G} {G : GC} {ad : Nat → Nat} {k0 : Nat} (h0k : Is k0 3) (x1 : Int32) (σ : Mem) : Ctr l D G ad ⟨"LineFrames$Bytes", "addWide", "(I)V"⟩ prog_4_method_9_code 2 none 1 21 [.ref (ad k0), .int x1] σ (.inl none, (f_BY_addWide k0 x1 σ)) := ctr_J (cv := cvM) (E := f_BY_addWide k0 x1 σ) (by decide +kernel) (Nat.le_of_ble_eq_true rfl) rfl (fun F h C => by subst h; exact w_BY_addWide C h0k x1 σ)
/-! LineFrames$StreamWriter segment (II)V -/
theorem d_SW_segment_0 : decode prog_11_method_4_code 0 = .ok (.aload_n 0, 1) := by decide +kernel
theorem d_SW_segment_1 : decode prog_11_method_4_code 1 = .ok (.iload_n 1, 1) := by decide +kernel
theorem d_SW_segment_2 : decode prog_11_method_4_code 2 = .ok (.invokevirtual 47, 3) := by decide +kernel
theorem d_SW_segment_5 : decode prog_11_method_4_code 5 = .ok (.aload_n 0, 1) := by decide +kernel
theorem d_SW_segment_6 : decode prog_11_method_4_code 6 = .ok (.getfield 29, 3) := by decide +kernel
theorem d_SW_segment_9 : decode prog_11_method_4_code 9 = .ok (.iload_n 2, 1) := by decide +kernel
theorem d_SW_segment_10 : decode prog_11_method_4_code 10 = .ok (.invokevirtual 78, 3) := by decide +kernel
theorem d_SW_segment_13 : decode prog_11_method_4_code 13 = .ok (.return_, 1) := by decide +kernel
def f_SW_segment (k0 : Nat) (x1 : Int32) (x2 : Int32) (σ : Mem) : Mem :=
  lt (f_SW_mark k0 x1 σ) fun σ1 =>
  lt (f_BY_addWide (wtg k0 1) x2 σ1) fun σ2 =>
  σ2
set_option maxHeartbeats 4000000 in
set_option maxRecDepth 100000 in
theorem w_SW_segment {F : Fx} (C : Ctx F prog_11_method_4_code 3 "LineFrames$StreamWriter" none 2 42) {k0 : Nat} (h0k : Is k0 10) (x1 : Int32) (x2 : Int32) (σ : Mem) : J F 3 cvM (f_SW_segment k0 x1 x2 σ) σ 0 [(0, .ref (fad F k0)), (1, .int x1), (2, .int x2)] [] := by
  unfold f_SW_segment
  refine j_aload_n C d_SW_segment_0 0 rfl ?_
  refine j_iload_n C d_SW_segment_1 1 rfl ?_
  refine j_callVv C mv_SW_47 [.int x1] [] h0k (c_SW_mark h0k x1 σ) rfl rfl (by decide) (Nat.le_of_ble_eq_true rfl) d_SW_segment_2 ?_
  refine j_genM (fun σ1 => ?_)
  refine j_aload_n C d_SW_segment_5 0 rfl ?_
  refine j_getR C h0k fl_SW_29 rfl d_SW_segment_6 ?_
  refine j_iload_n C d_SW_segment_9 2 rfl ?_
  refine j_callVv C mv_SW_78 [.int x2] [] (tg_10_1 _ h0k) (c_BY_addWide (tg_10_1 _ h0k) x2 σ1) rfl rfl (by decide) (Nat.le_of_ble_eq_true rfl) d_SW_segment_10 ?_
  refine j_genM (fun σ2 => ?_)
  exact j_vret C (fun ρ h => leaf_eq h) d_SW_segment_13
theorem c_SW_segment {l : Launch} {D : va_G} {G : GC} {ad : Nat → Nat} {k0 : Nat} (h0k : Is k0 10) (x1 : Int32) (x2 : Int32) (σ : Mem) : Ctr l D G ad ⟨"LineFrames$StreamWriter", "segment", "(II)V"⟩ prog_11_method_4_code 3 none 2 42 [.ref (ad k0), .int x1, .int x2] σ (.inl none, (f_SW_segment k0 x1 x2 σ)) := ctr_J (cv := cvM) (E := f_SW_segment k0 x1 x2 σ) (by decide +kernel) (Nat.le_of_ble_eq_true rfl) rfl (fun F h C => by subst h; exact w_SW_segment C h0k x1 x2 σ)
/-! LineFrames$Notes byteIn (II)I -/
theorem d_NO_byteIn_0 : decode prog_7_method_7_code 0 = .ok (.aload_n 0, 1) := by decide +kernel
theorem d_NO_byteIn_1 : decode prog_7_method_7_code 1 = .ok (.getfield 23, 3) := by decide +kernel
theorem d_NO_byteIn_4 : decode prog_7_method_7_code 4 = .ok (.iload_n 1, 1) := by decide +kernel
theorem d_NO_byteIn_5 : decode prog_7_method_7_code 5 = .ok (.bipush 30, 2) := by decide +kernel
theorem d_NO_byteIn_7 : decode prog_7_method_7_code 7 = .ok (.imul, 1) := by decide +kernel
theorem d_NO_byteIn_8 : decode prog_7_method_7_code 8 = .ok (.iload_n 2, 1) := by decide +kernel
theorem d_NO_byteIn_9 : decode prog_7_method_7_code 9 = .ok (.iadd, 1) := by decide +kernel
theorem d_NO_byteIn_10 : decode prog_7_method_7_code 10 = .ok (.invokevirtual 30, 3) := by decide +kernel
theorem d_NO_byteIn_13 : decode prog_7_method_7_code 13 = .ok (.ireturn, 1) := by decide +kernel
def f_NO_byteIn (k0 : Nat) (x1 : Int32) (x2 : Int32) (σ : Mem) : Int32 :=
  (f_RO_get (wtg k0 2) ((x1 * (30 : Int32)) + x2) σ)
set_option maxHeartbeats 4000000 in
set_option maxRecDepth 100000 in
theorem w_NO_byteIn {F : Fx} (C : Ctx F prog_7_method_7_code 3 "LineFrames$Notes" (some .int) 1 21) {k0 : Nat} (h0k : Is k0 6) (x1 : Int32) (x2 : Int32) (σ : Mem) : J F 3 (cvI σ) (f_NO_byteIn k0 x1 x2 σ) σ 0 [(0, .ref (fad F k0)), (1, .int x1), (2, .int x2)] [] := by
  unfold f_NO_byteIn
  refine j_aload_n C d_NO_byteIn_0 0 rfl ?_
  refine j_getR C h0k fl_NO_23 rfl d_NO_byteIn_1 ?_
  refine j_iload_n C d_NO_byteIn_4 1 rfl ?_
  refine j_bipush (v := (30 : Int32)) C d_NO_byteIn_5 (by decide) ?_
  refine j_imul C d_NO_byteIn_7 ?_
  refine j_iload_n C d_NO_byteIn_8 2 rfl ?_
  refine j_iadd C d_NO_byteIn_9 ?_
  refine j_callVi C mv_NO_30 [.int ((x1 * (30 : Int32)) + x2)] [] (tg_6_2 _ h0k) (c_RO_get (tg_6_2 _ h0k) ((x1 * (30 : Int32)) + x2) σ) rfl rfl (by decide) (Nat.le_of_ble_eq_true rfl) d_NO_byteIn_10 ?_
  exact j_ireti C (fun ρ h => leaf_eq h) d_NO_byteIn_13
theorem c_NO_byteIn {l : Launch} {D : va_G} {G : GC} {ad : Nat → Nat} {k0 : Nat} (h0k : Is k0 6) (x1 : Int32) (x2 : Int32) (σ : Mem) : Ctr l D G ad ⟨"LineFrames$Notes", "byteIn", "(II)I"⟩ prog_7_method_7_code 3 (some .int) 1 21 [.ref (ad k0), .int x1, .int x2] σ (.inl (some (.int (f_NO_byteIn k0 x1 x2 σ))), σ) := ctr_J (cv := (cvI σ)) (E := f_NO_byteIn k0 x1 x2 σ) (by decide +kernel) (Nat.le_of_ble_eq_true rfl) rfl (fun F h C => by subst h; exact w_NO_byteIn C h0k x1 x2 σ)
/-! LineFrames$StreamWriter addNotes ()V -/
theorem d_SW_addNotes_0 : decode prog_11_method_5_code 0 = .ok (.aload_n 0, 1) := by decide +kernel
theorem d_SW_addNotes_1 : decode prog_11_method_5_code 1 = .ok (.getfield 25, 3) := by decide +kernel
theorem d_SW_addNotes_4 : decode prog_11_method_5_code 4 = .ok (.getfield 81, 3) := by decide +kernel
theorem d_SW_addNotes_7 : decode prog_11_method_5_code 7 = .ok (.astore_n 1, 1) := by decide +kernel
theorem d_SW_addNotes_8 : decode prog_11_method_5_code 8 = .ok (.iconst 0, 1) := by decide +kernel
theorem d_SW_addNotes_9 : decode prog_11_method_5_code 9 = .ok (.istore_n 2, 1) := by decide +kernel
theorem d_SW_addNotes_10 : decode prog_11_method_5_code 10 = .ok (.iload_n 2, 1) := by decide +kernel
theorem d_SW_addNotes_11 : decode prog_11_method_5_code 11 = .ok (.aload_n 1, 1) := by decide +kernel
theorem d_SW_addNotes_12 : decode prog_11_method_5_code 12 = .ok (.invokevirtual 85, 3) := by decide +kernel
theorem d_SW_addNotes_15 : decode prog_11_method_5_code 15 = .ok (.if_icmp .ge 77, 3) := by decide +kernel
theorem d_SW_addNotes_18 : decode prog_11_method_5_code 18 = .ok (.aload_n 1, 1) := by decide +kernel
theorem d_SW_addNotes_19 : decode prog_11_method_5_code 19 = .ok (.iload_n 2, 1) := by decide +kernel
theorem d_SW_addNotes_20 : decode prog_11_method_5_code 20 = .ok (.invokevirtual 91, 3) := by decide +kernel
theorem d_SW_addNotes_23 : decode prog_11_method_5_code 23 = .ok (.istore_n 3, 1) := by decide +kernel
theorem d_SW_addNotes_24 : decode prog_11_method_5_code 24 = .ok (.aload_n 1, 1) := by decide +kernel
theorem d_SW_addNotes_25 : decode prog_11_method_5_code 25 = .ok (.iload_n 2, 1) := by decide +kernel
theorem d_SW_addNotes_26 : decode prog_11_method_5_code 26 = .ok (.invokevirtual 95, 3) := by decide +kernel
theorem d_SW_addNotes_29 : decode prog_11_method_5_code 29 = .ok (.istore 4, 2) := by decide +kernel
theorem d_SW_addNotes_31 : decode prog_11_method_5_code 31 = .ok (.aload_n 0, 1) := by decide +kernel
theorem d_SW_addNotes_32 : decode prog_11_method_5_code 32 = .ok (.iload_n 3, 1) := by decide +kernel
theorem d_SW_addNotes_33 : decode prog_11_method_5_code 33 = .ok (.bipush 16, 2) := by decide +kernel
theorem d_SW_addNotes_35 : decode prog_11_method_5_code 35 = .ok (.if_icmp .ne 9, 3) := by decide +kernel
theorem d_SW_addNotes_38 : decode prog_11_method_5_code 38 = .ok (.sipush 254, 3) := by decide +kernel
theorem d_SW_addNotes_41 : decode prog_11_method_5_code 41 = .ok (.goto 8, 3) := by decide +kernel
theorem d_SW_addNotes_44 : decode prog_11_method_5_code 44 = .ok (.sipush 224, 3) := by decide +kernel
theorem d_SW_addNotes_47 : decode prog_11_method_5_code 47 = .ok (.iload_n 3, 1) := by decide +kernel
theorem d_SW_addNotes_48 : decode prog_11_method_5_code 48 = .ok (.iadd, 1) := by decide +kernel
theorem d_SW_addNotes_49 : decode prog_11_method_5_code 49 = .ok (.iconst 2, 1) := by decide +kernel
theorem d_SW_addNotes_50 : decode prog_11_method_5_code 50 = .ok (.iload 4, 2) := by decide +kernel
theorem d_SW_addNotes_52 : decode prog_11_method_5_code 52 = .ok (.iadd, 1) := by decide +kernel
theorem d_SW_addNotes_53 : decode prog_11_method_5_code 53 = .ok (.invokevirtual 98, 3) := by decide +kernel
theorem d_SW_addNotes_56 : decode prog_11_method_5_code 56 = .ok (.iconst 0, 1) := by decide +kernel
theorem d_SW_addNotes_57 : decode prog_11_method_5_code 57 = .ok (.istore 5, 2) := by decide +kernel
theorem d_SW_addNotes_59 : decode prog_11_method_5_code 59 = .ok (.iload 5, 2) := by decide +kernel
theorem d_SW_addNotes_61 : decode prog_11_method_5_code 61 = .ok (.iload 4, 2) := by decide +kernel
theorem d_SW_addNotes_63 : decode prog_11_method_5_code 63 = .ok (.if_icmp .ge 23, 3) := by decide +kernel
theorem d_SW_addNotes_66 : decode prog_11_method_5_code 66 = .ok (.aload_n 0, 1) := by decide +kernel
theorem d_SW_addNotes_67 : decode prog_11_method_5_code 67 = .ok (.getfield 29, 3) := by decide +kernel
theorem d_SW_addNotes_70 : decode prog_11_method_5_code 70 = .ok (.aload_n 1, 1) := by decide +kernel
theorem d_SW_addNotes_71 : decode prog_11_method_5_code 71 = .ok (.iload_n 2, 1) := by decide +kernel
theorem d_SW_addNotes_72 : decode prog_11_method_5_code 72 = .ok (.iload 5, 2) := by decide +kernel
theorem d_SW_addNotes_74 : decode prog_11_method_5_code 74 = .ok (.invokevirtual 102, 3) := by decide +kernel
theorem d_SW_addNotes_77 : decode prog_11_method_5_code 77 = .ok (.invokevirtual 75, 3) := by decide +kernel
theorem d_SW_addNotes_80 : decode prog_11_method_5_code 80 = .ok (.iinc 5 1, 3) := by decide +kernel
theorem d_SW_addNotes_83 : decode prog_11_method_5_code 83 = .ok (.goto (-24), 3) := by decide +kernel
theorem d_SW_addNotes_86 : decode prog_11_method_5_code 86 = .ok (.iinc 2 1, 3) := by decide +kernel
theorem d_SW_addNotes_89 : decode prog_11_method_5_code 89 = .ok (.goto (-79), 3) := by decide +kernel
theorem d_SW_addNotes_92 : decode prog_11_method_5_code 92 = .ok (.return_, 1) := by decide +kernel
def L_SW_addNotes_59 (r0 : Nat) (r1 : Nat) (b2 : Int32) (b3 : Int32) (b4 : Int32) : Nat → Int32 → Mem →  Option (Int32 × Mem)
  | 0, _, _ => none
  | n + 1, a5, σ =>
  if b4 ≤ a5 then
  some (a5, σ)
  else
  lt (f_BY_add (wtg r0 1) (f_NO_byteIn r1 b2 a5 σ) σ) fun σ6 =>
  L_SW_addNotes_59 r0 r1 b2 b3 b4 n (a5 + (1 : Int32)) σ6
def L_SW_addNotes_10 (r0 : Nat) (r1 : Nat) : Nat → Int32 → Mem →  Option (Int32 × Mem)
  | 0, _, _ => none
  | n + 1, a2, σ =>
  if (f_NO_count r1 σ) ≤ a2 then
  some (a2, σ)
  else
  lt (f_SW_segment r0 (if (f_NO_kindOf r1 a2 σ) = (16 : Int32) then (254 : Int32) else ((224 : Int32) + (f_NO_kindOf r1 a2 σ))) ((2 : Int32) + (f_NO_sizeOf r1 a2 σ)) σ) fun σ4 =>
  (L_SW_addNotes_59 r0 r1 a2 (f_NO_kindOf r1 a2 σ) (f_NO_sizeOf r1 a2 σ) 9999 (0 : Int32) σ4).bind fun q7 =>
  L_SW_addNotes_10 r0 r1 n (a2 + (1 : Int32)) q7.2
def f_SW_addNotes (k0 : Nat) (σ : Mem) : Option (Mem) :=
  (L_SW_addNotes_10 k0 (wtg (wtg k0 0) 4) 9999 (0 : Int32) σ).bind fun q8 =>
  some (q8.2)
set_option maxHeartbeats 4000000 in
set_option maxRecDepth 100000 in
theorem wL_SW_addNotes_59 {F : Fx} (C : Ctx F prog_11_method_5_code 6 "LineFrames$StreamWriter" none 3 64) {cv : Option (Int32 × Mem) → Option Rs} (h0 : cv none = none) (r0 : Nat) (hr0 : Is r0 10) (r1 : Nat) (hr1 : Is r1 6) (b2 : Int32) (b3 : Int32) (b4 : Int32) (hex : ∀ q : Int32 × Mem, J F 6 cv (some q) q.2 86 [(0, .ref (fad F r0)), (1, .ref (fad F r1)), (2, .int b2), (3, .int b3), (4, .int b4), (5, .int q.1)] []) : ∀ (n : Nat) (a5 : Int32) (σ : Mem), J F 6 cv (L_SW_addNotes_59 r0 r1 b2 b3 b4 n a5 σ) σ 59 [(0, .ref (fad F r0)), (1, .ref (fad F r1)), (2, .int b2), (3, .int b3), (4, .int b4), (5, .int a5)] [] := by
  intro n
  induction n with
  | zero => intro a5 σ hE; rw [L_SW_addNotes_59, h0] at hE; cases hE
  | succ n ih =>
    intro a5 σ
    rw [L_SW_addNotes_59]
    refine j_iload C d_SW_addNotes_59 5 rfl ?_
    refine j_iload C d_SW_addNotes_61 4 rfl ?_
    refine j_icmp_ge (tgt := 86) C d_SW_addNotes_63 (by decide) (fun c5 => ?_) (fun c5 => ?_)
    · exact hex (a5, σ)
    · refine j_aload_n C d_SW_addNotes_66 0 rfl ?_
      refine j_getR C hr0 fl_SW_29 rfl d_SW_addNotes_67 ?_
      refine j_aload_n C d_SW_addNotes_70 1 rfl ?_
      refine j_iload_n C d_SW_addNotes_71 2 rfl ?_
      refine j_iload C d_SW_addNotes_72 5 rfl ?_
      refine j_callVi C mv_SW_102 [.int b2, .int a5] [.ref (fad F (wtg r0 1))] hr1 (c_NO_byteIn hr1 b2 a5 σ) rfl rfl (by decide) (Nat.le_of_ble_eq_true rfl) d_SW_addNotes_74 ?_
      refine j_callVv C mv_SW_75 [.int (f_NO_byteIn r1 b2 a5 σ)] [] (tg_10_1 _ hr0) (c_BY_add (tg_10_1 _ hr0) (f_NO_byteIn r1 b2 a5 σ) σ) rfl rfl (by decide) (Nat.le_of_ble_eq_true rfl) d_SW_addNotes_77 ?_
      refine j_genM (fun σ6 => ?_)
      refine j_iinc (v := (a5 + (1 : Int32))) (lv9 := [(0, .ref (fad F r0)), (1, .ref (fad F r1)), (2, .int b2), (3, .int b3), (4, .int b4), (5, .int (a5 + (1 : Int32)))]) C d_SW_addNotes_80 5 rfl rfl rfl rfl (by decide) ?_
      refine j_goto (tgt := 59) C d_SW_addNotes_83 (by decide) ?_
      exact ih (a5 + (1 : Int32)) σ6
set_option maxHeartbeats 4000000 in
set_option maxRecDepth 100000 in
theorem wL_SW_addNotes_10 {F : Fx} (C : Ctx F prog_11_method_5_code 6 "LineFrames$StreamWriter" none 3 64) {cv : Option (Int32 × Mem) → Option Rs} (h0 : cv none = none) (r0 : Nat) (hr0 : Is r0 10) (r1 : Nat) (hr1 : Is r1 6) (hex : ∀ q : Int32 × Mem, J F 6 cv (some q) q.2 92 [(0, .ref (fad F r0)), (1, .ref (fad F r1)), (2, .int q.1)] []) : ∀ (n : Nat) (a2 : Int32) (σ : Mem), J F 6 cv (L_SW_addNotes_10 r0 r1 n a2 σ) σ 10 [(0, .ref (fad F r0)), (1, .ref (fad F r1)), (2, .int a2)] [] := by
  intro n
  induction n with
  | zero => intro a2 σ hE; rw [L_SW_addNotes_10, h0] at hE; cases hE
  | succ n ih =>
    intro a2 σ
    rw [L_SW_addNotes_10]
    refine j_iload_n C d_SW_addNotes_10 2 rfl ?_
    refine j_aload_n C d_SW_addNotes_11 1 rfl ?_
    refine j_callVi C mv_SW_85 [] [.int a2] hr1 (c_NO_count hr1 σ) rfl rfl (by decide) (Nat.le_of_ble_eq_true rfl) d_SW_addNotes_12 ?_
    refine j_icmp_ge (tgt := 92) C d_SW_addNotes_15 (by decide) (fun c1 => ?_) (fun c1 => ?_)
    · exact hex (a2, σ)
    · refine j_aload_n C d_SW_addNotes_18 1 rfl ?_
      refine j_iload_n C d_SW_addNotes_19 2 rfl ?_
      refine j_callVi C mv_SW_91 [.int a2] [] hr1 (c_NO_kindOf hr1 a2 σ) rfl rfl (by decide) (Nat.le_of_ble_eq_true rfl) d_SW_addNotes_20 ?_
      refine j_istore_n (lv9 := [(0, .ref (fad F r0)), (1, .ref (fad F r1)), (2, .int a2), (3, .int (f_NO_kindOf r1 a2 σ))]) C d_SW_addNotes_23 rfl rfl (by decide) ?_
      refine j_aload_n C d_SW_addNotes_24 1 rfl ?_
      refine j_iload_n C d_SW_addNotes_25 2 rfl ?_
      refine j_callVi C mv_SW_95 [.int a2] [] hr1 (c_NO_sizeOf hr1 a2 σ) rfl rfl (by decide) (Nat.le_of_ble_eq_true rfl) d_SW_addNotes_26 ?_
      refine j_istore (lv9 := [(0, .ref (fad F r0)), (1, .ref (fad F r1)), (2, .int a2), (3, .int (f_NO_kindOf r1 a2 σ)), (4, .int (f_NO_sizeOf r1 a2 σ))]) C d_SW_addNotes_29 rfl rfl (by decide) ?_
      refine j_aload_n C d_SW_addNotes_31 0 rfl ?_
      refine j_iload_n C d_SW_addNotes_32 3 rfl ?_
      refine j_bipush (v := (16 : Int32)) C d_SW_addNotes_33 (by decide) ?_
      refine d_icmp_ne (a := (254 : Int32)) (b := ((224 : Int32) + (f_NO_kindOf r1 a2 σ))) (jp := 49) (tgt := 44) C d_SW_addNotes_35 (by decide) (fun c2 k3 => ?_) (fun c2 k3 => ?_) ?_
      · refine j_sipush (v := (224 : Int32)) C d_SW_addNotes_44 (by decide) ?_
        refine j_iload_n C d_SW_addNotes_47 3 rfl ?_
        refine j_iadd C d_SW_addNotes_48 ?_
        exact k3
      · refine j_sipush (v := (254 : Int32)) C d_SW_addNotes_38 (by decide) ?_
        refine j_goto (tgt := 49) C d_SW_addNotes_41 (by decide) ?_
        exact k3
      refine j_iconst (v := (2 : Int32)) C d_SW_addNotes_49 (by decide) ?_
      refine j_iload C d_SW_addNotes_50 4 rfl ?_
      refine j_iadd C d_SW_addNotes_52 ?_
      refine j_callVv C mv_SW_98 [.int (if (f_NO_kindOf r1 a2 σ) = (16 : Int32) then (254 : Int32) else ((224 : Int32) + (f_NO_kindOf r1 a2 σ))), .int ((2 : Int32) + (f_NO_sizeOf r1 a2 σ))] [] hr0 (c_SW_segment hr0 (if (f_NO_kindOf r1 a2 σ) = (16 : Int32) then (254 : Int32) else ((224 : Int32) + (f_NO_kindOf r1 a2 σ))) ((2 : Int32) + (f_NO_sizeOf r1 a2 σ)) σ) rfl rfl (by decide) (Nat.le_of_ble_eq_true rfl) d_SW_addNotes_53 ?_
      refine j_genM (fun σ4 => ?_)
      refine j_iconst (v := (0 : Int32)) C d_SW_addNotes_56 (by decide) ?_
      refine j_istore (lv9 := [(0, .ref (fad F r0)), (1, .ref (fad F r1)), (2, .int a2), (3, .int (f_NO_kindOf r1 a2 σ)), (4, .int (f_NO_sizeOf r1 a2 σ)), (5, .int (0 : Int32))]) C d_SW_addNotes_57 rfl rfl (by decide) ?_
      refine j_loop (wL_SW_addNotes_59 C (by exact h0) r0 hr0 r1 hr1 a2 (f_NO_kindOf r1 a2 σ) (f_NO_sizeOf r1 a2 σ) (fun q7 => j_some ?_) 9999 (0 : Int32) σ4)
      refine j_iinc (v := (a2 + (1 : Int32))) (lv9 := [(0, .ref (fad F r0)), (1, .ref (fad F r1)), (2, .int (a2 + (1 : Int32))), (3, .int (f_NO_kindOf r1 a2 σ)), (4, .int (f_NO_sizeOf r1 a2 σ)), (5, .int q7.1)]) C d_SW_addNotes_86 2 rfl rfl rfl rfl (by decide) ?_
      refine j_goto (tgt := 10) C d_SW_addNotes_89 (by decide) ?_
      refine j_sub (lv9 := [(0, .ref (fad F r0)), (1, .ref (fad F r1)), (2, .int (a2 + (1 : Int32)))]) [0, 1, 2] rfl ?_
      exact ih (a2 + (1 : Int32)) q7.2
set_option maxHeartbeats 4000000 in
set_option maxRecDepth 100000 in
theorem w_SW_addNotes {F : Fx} (C : Ctx F prog_11_method_5_code 6 "LineFrames$StreamWriter" none 3 64) {k0 : Nat} (h0k : Is k0 10) (σ : Mem) : J F 6 (cvO cvM) (f_SW_addNotes k0 σ) σ 0 [(0, .ref (fad F k0))] [] := by
  unfold f_SW_addNotes
  refine j_aload_n C d_SW_addNotes_0 0 rfl ?_
  refine j_getR C h0k fl_SW_25 rfl d_SW_addNotes_1 ?_
  refine j_getR C (tg_10_0 _ h0k) fl_SW_81 rfl d_SW_addNotes_4 ?_
  refine j_astore_n (lv9 := [(0, .ref (fad F k0)), (1, .ref (fad F (wtg (wtg k0 0) 4)))]) C d_SW_addNotes_7 rfl rfl (by decide) ?_
  refine j_iconst (v := (0 : Int32)) C d_SW_addNotes_8 (by decide) ?_
  refine j_istore_n (lv9 := [(0, .ref (fad F k0)), (1, .ref (fad F (wtg (wtg k0 0) 4))), (2, .int (0 : Int32))]) C d_SW_addNotes_9 rfl rfl (by decide) ?_
  refine j_loop (wL_SW_addNotes_10 C rfl k0 h0k (wtg (wtg k0 0) 4) (tg_7_4 _ (tg_10_0 _ h0k)) (fun q8 => j_some ?_) 9999 (0 : Int32) σ)
  exact j_vret C (fun ρ h => leaf_eq h) d_SW_addNotes_92
theorem c_SW_addNotes {l : Launch} {D : va_G} {G : GC} {ad : Nat → Nat} {k0 : Nat} (h0k : Is k0 10) (σ : Mem) {q : Mem} (hq : f_SW_addNotes k0 σ = some q) : Ctr l D G ad ⟨"LineFrames$StreamWriter", "addNotes", "()V"⟩ prog_11_method_5_code 6 none 3 64 [.ref (ad k0)] σ (.inl none, q) := ctr_J (cv := (cvO cvM)) (E := f_SW_addNotes k0 σ) (by decide +kernel) (Nat.le_of_ble_eq_true rfl) (by rw [hq]; rfl) (fun F h C => by subst h; exact w_SW_addNotes C h0k σ)
