/-! LineFrames$Picture mayMeasure (IIII)Z -/
theorem d_PI_mayMeasure_0 : decode prog_8_method_2_code 0 = .ok (.iload_n 0, 1) := by decide +kernel
theorem d_PI_mayMeasure_1 : decode prog_8_method_2_code 1 = .ok (.iconst 1, 1) := by decide +kernel
theorem d_PI_mayMeasure_2 : decode prog_8_method_2_code 2 = .ok (.if_icmp .lt 45, 3) := by decide +kernel
theorem d_PI_mayMeasure_5 : decode prog_8_method_2_code 5 = .ok (.iload_n 0, 1) := by decide +kernel
theorem d_PI_mayMeasure_6 : decode prog_8_method_2_code 6 = .ok (.bipush 12, 2) := by decide +kernel
theorem d_PI_mayMeasure_8 : decode prog_8_method_2_code 8 = .ok (.if_icmp .gt 39, 3) := by decide +kernel
theorem d_PI_mayMeasure_11 : decode prog_8_method_2_code 11 = .ok (.iload_n 1, 1) := by decide +kernel
theorem d_PI_mayMeasure_12 : decode prog_8_method_2_code 12 = .ok (.iconst 1, 1) := by decide +kernel
theorem d_PI_mayMeasure_13 : decode prog_8_method_2_code 13 = .ok (.if_icmp .lt 34, 3) := by decide +kernel
theorem d_PI_mayMeasure_16 : decode prog_8_method_2_code 16 = .ok (.iload_n 1, 1) := by decide +kernel
theorem d_PI_mayMeasure_17 : decode prog_8_method_2_code 17 = .ok (.bipush 12, 2) := by decide +kernel
theorem d_PI_mayMeasure_19 : decode prog_8_method_2_code 19 = .ok (.if_icmp .gt 28, 3) := by decide +kernel
theorem d_PI_mayMeasure_22 : decode prog_8_method_2_code 22 = .ok (.iload_n 2, 1) := by decide +kernel
theorem d_PI_mayMeasure_23 : decode prog_8_method_2_code 23 = .ok (.iconst 2, 1) := by decide +kernel
theorem d_PI_mayMeasure_24 : decode prog_8_method_2_code 24 = .ok (.if_icmp .lt 23, 3) := by decide +kernel
theorem d_PI_mayMeasure_27 : decode prog_8_method_2_code 27 = .ok (.iload_n 2, 1) := by decide +kernel
theorem d_PI_mayMeasure_28 : decode prog_8_method_2_code 28 = .ok (.bipush 8, 2) := by decide +kernel
theorem d_PI_mayMeasure_30 : decode prog_8_method_2_code 30 = .ok (.if_icmp .gt 17, 3) := by decide +kernel
theorem d_PI_mayMeasure_33 : decode prog_8_method_2_code 33 = .ok (.iload_n 3, 1) := by decide +kernel
theorem d_PI_mayMeasure_34 : decode prog_8_method_2_code 34 = .ok (.iconst 1, 1) := by decide +kernel
theorem d_PI_mayMeasure_35 : decode prog_8_method_2_code 35 = .ok (.if_icmp .lt 12, 3) := by decide +kernel
theorem d_PI_mayMeasure_38 : decode prog_8_method_2_code 38 = .ok (.iload_n 3, 1) := by decide +kernel
theorem d_PI_mayMeasure_39 : decode prog_8_method_2_code 39 = .ok (.iconst 4, 1) := by decide +kernel
theorem d_PI_mayMeasure_40 : decode prog_8_method_2_code 40 = .ok (.if_icmp .gt 7, 3) := by decide +kernel
theorem d_PI_mayMeasure_43 : decode prog_8_method_2_code 43 = .ok (.iconst 1, 1) := by decide +kernel
theorem d_PI_mayMeasure_44 : decode prog_8_method_2_code 44 = .ok (.goto 4, 3) := by decide +kernel
theorem d_PI_mayMeasure_47 : decode prog_8_method_2_code 47 = .ok (.iconst 0, 1) := by decide +kernel
theorem d_PI_mayMeasure_48 : decode prog_8_method_2_code 48 = .ok (.ireturn, 1) := by decide +kernel
def f_PI_mayMeasure (x0 : Int32) (x1 : Int32) (x2 : Int32) (x3 : Int32) (σ : Mem) : Int32 :=
  (if x0 < (1 : Int32) then (0 : Int32) else (if (12 : Int32) < x0 then (0 : Int32) else (if x1 < (1 : Int32) then (0 : Int32) else (if (12 : Int32) < x1 then (0 : Int32) else (if x2 < (2 : Int32) then (0 : Int32) else (if (8 : Int32) < x2 then (0 : Int32) else (if x3 < (1 : Int32) then (0 : Int32) else (if (4 : Int32) < x3 then (0 : Int32) else (1 : Int32)))))))))
set_option maxHeartbeats 4000000 in
set_option maxRecDepth 100000 in
theorem w_PI_mayMeasure {F : Fx} (C : Ctx F prog_8_method_2_code 4 "LineFrames$Picture" (some .boolean) 0 0) (x0 : Int32) (x1 : Int32) (x2 : Int32) (x3 : Int32) (σ : Mem) : J F 4 (cvI σ) (f_PI_mayMeasure x0 x1 x2 x3 σ) σ 0 [(0, .int x0), (1, .int x1), (2, .int x2), (3, .int x3)] [] := by
  unfold f_PI_mayMeasure
  refine j_iload_n C d_PI_mayMeasure_0 0 rfl ?_
  refine j_iconst (v := (1 : Int32)) C d_PI_mayMeasure_1 (by decide) ?_
  refine d_icmp_lt (a := (0 : Int32)) (b := (if (12 : Int32) < x0 then (0 : Int32) else (if x1 < (1 : Int32) then (0 : Int32) else (if (12 : Int32) < x1 then (0 : Int32) else (if x2 < (2 : Int32) then (0 : Int32) else (if (8 : Int32) < x2 then (0 : Int32) else (if x3 < (1 : Int32) then (0 : Int32) else (if (4 : Int32) < x3 then (0 : Int32) else (1 : Int32))))))))) (jp := 48) (tgt := 47) C d_PI_mayMeasure_2 (by decide) (fun c3 k4 => ?_) (fun c3 k4 => ?_) ?_
  · refine j_iconst (v := (0 : Int32)) C d_PI_mayMeasure_47 (by decide) ?_
    exact k4
  · refine j_iload_n C d_PI_mayMeasure_5 0 rfl ?_
    refine j_bipush (v := (12 : Int32)) C d_PI_mayMeasure_6 (by decide) ?_
    refine d_icmp_gt (a := (0 : Int32)) (b := (if x1 < (1 : Int32) then (0 : Int32) else (if (12 : Int32) < x1 then (0 : Int32) else (if x2 < (2 : Int32) then (0 : Int32) else (if (8 : Int32) < x2 then (0 : Int32) else (if x3 < (1 : Int32) then (0 : Int32) else (if (4 : Int32) < x3 then (0 : Int32) else (1 : Int32)))))))) (jp := 48) (tgt := 47) C d_PI_mayMeasure_8 (by decide) (fun c5 k6 => ?_) (fun c5 k6 => ?_) ?_
    · refine j_iconst (v := (0 : Int32)) C d_PI_mayMeasure_47 (by decide) ?_
      exact k6
    · refine j_iload_n C d_PI_mayMeasure_11 1 rfl ?_
      refine j_iconst (v := (1 : Int32)) C d_PI_mayMeasure_12 (by decide) ?_
      refine d_icmp_lt (a := (0 : Int32)) (b := (if (12 : Int32) < x1 then (0 : Int32) else (if x2 < (2 : Int32) then (0 : Int32) else (if (8 : Int32) < x2 then (0 : Int32) else (if x3 < (1 : Int32) then (0 : Int32) else (if (4 : Int32) < x3 then (0 : Int32) else (1 : Int32))))))) (jp := 48) (tgt := 47) C d_PI_mayMeasure_13 (by decide) (fun c7 k8 => ?_) (fun c7 k8 => ?_) ?_
      · refine j_iconst (v := (0 : Int32)) C d_PI_mayMeasure_47 (by decide) ?_
        exact k8
      · refine j_iload_n C d_PI_mayMeasure_16 1 rfl ?_
        refine j_bipush (v := (12 : Int32)) C d_PI_mayMeasure_17 (by decide) ?_
        refine d_icmp_gt (a := (0 : Int32)) (b := (if x2 < (2 : Int32) then (0 : Int32) else (if (8 : Int32) < x2 then (0 : Int32) else (if x3 < (1 : Int32) then (0 : Int32) else (if (4 : Int32) < x3 then (0 : Int32) else (1 : Int32)))))) (jp := 48) (tgt := 47) C d_PI_mayMeasure_19 (by decide) (fun c9 k10 => ?_) (fun c9 k10 => ?_) ?_
        · refine j_iconst (v := (0 : Int32)) C d_PI_mayMeasure_47 (by decide) ?_
          exact k10
        · refine j_iload_n C d_PI_mayMeasure_22 2 rfl ?_
          refine j_iconst (v := (2 : Int32)) C d_PI_mayMeasure_23 (by decide) ?_
          refine d_icmp_lt (a := (0 : Int32)) (b := (if (8 : Int32) < x2 then (0 : Int32) else (if x3 < (1 : Int32) then (0 : Int32) else (if (4 : Int32) < x3 then (0 : Int32) else (1 : Int32))))) (jp := 48) (tgt := 47) C d_PI_mayMeasure_24 (by decide) (fun c11 k12 => ?_) (fun c11 k12 => ?_) ?_
          · refine j_iconst (v := (0 : Int32)) C d_PI_mayMeasure_47 (by decide) ?_
            exact k12
          · refine j_iload_n C d_PI_mayMeasure_27 2 rfl ?_
            refine j_bipush (v := (8 : Int32)) C d_PI_mayMeasure_28 (by decide) ?_
            refine d_icmp_gt (a := (0 : Int32)) (b := (if x3 < (1 : Int32) then (0 : Int32) else (if (4 : Int32) < x3 then (0 : Int32) else (1 : Int32)))) (jp := 48) (tgt := 47) C d_PI_mayMeasure_30 (by decide) (fun c13 k14 => ?_) (fun c13 k14 => ?_) ?_
            · refine j_iconst (v := (0 : Int32)) C d_PI_mayMeasure_47 (by decide) ?_
              exact k14
            · refine j_iload_n C d_PI_mayMeasure_33 3 rfl ?_
              refine j_iconst (v := (1 : Int32)) C d_PI_mayMeasure_34 (by decide) ?_
              refine d_icmp_lt (a := (0 : Int32)) (b := (if (4 : Int32) < x3 then (0 : Int32) else (1 : Int32))) (jp := 48) (tgt := 47) C d_PI_mayMeasure_35 (by decide) (fun c15 k16 => ?_) (fun c15 k16 => ?_) ?_
              · refine j_iconst (v := (0 : Int32)) C d_PI_mayMeasure_47 (by decide) ?_
                exact k16
              · refine j_iload_n C d_PI_mayMeasure_38 3 rfl ?_
                refine j_iconst (v := (4 : Int32)) C d_PI_mayMeasure_39 (by decide) ?_
                refine d_icmp_gt (a := (0 : Int32)) (b := (1 : Int32)) (jp := 48) (tgt := 47) C d_PI_mayMeasure_40 (by decide) (fun c17 k18 => ?_) (fun c17 k18 => ?_) ?_
                · refine j_iconst (v := (0 : Int32)) C d_PI_mayMeasure_47 (by decide) ?_
                  exact k18
                · refine j_iconst (v := (1 : Int32)) C d_PI_mayMeasure_43 (by decide) ?_
                  refine j_goto (tgt := 48) C d_PI_mayMeasure_44 (by decide) ?_
                  exact k18
                exact k16
              exact k14
            exact k12
          exact k10
        exact k8
      exact k6
    exact k4
  exact j_iretz C (fun ρ h => leaf_eq h) (nz01 (ite01 (Or.inl rfl) (ite01 (Or.inl rfl) (ite01 (Or.inl rfl) (ite01 (Or.inl rfl) (ite01 (Or.inl rfl) (ite01 (Or.inl rfl) (ite01 (Or.inl rfl) (ite01 (Or.inl rfl) (Or.inr rfl)))))))))) d_PI_mayMeasure_48
theorem c_PI_mayMeasure {l : Launch} {D : va_G} {G : GC} {ad : Nat → Nat} (x0 : Int32) (x1 : Int32) (x2 : Int32) (x3 : Int32) (σ : Mem) : Ctr l D G ad ⟨"LineFrames$Picture", "mayMeasure", "(IIII)Z"⟩ prog_8_method_2_code 4 (some .boolean) 0 0 [.int x0, .int x1, .int x2, .int x3] σ (.inl (some (.int (f_PI_mayMeasure x0 x1 x2 x3 σ))), σ) := ctr_J (cv := (cvI σ)) (E := f_PI_mayMeasure x0 x1 x2 x3 σ) (by decide +kernel) (Nat.le_of_ble_eq_true rfl) rfl (fun F h C => by subst h; exact w_PI_mayMeasure C x0 x1 x2 x3 σ)
theorem z_PI_mayMeasure (x0 : Int32) (x1 : Int32) (x2 : Int32) (x3 : Int32) (σ : Mem) : f_PI_mayMeasure x0 x1 x2 x3 σ = 0 ∨ f_PI_mayMeasure x0 x1 x2 x3 σ = 1 := by
  unfold f_PI_mayMeasure
  try simp only [lt]
  repeat' split
  all_goals first | exact Or.inl rfl | exact Or.inr rfl
/-! LineFrames$StreamReader takeFrame (II)I -/
theorem d_SR_takeFrame_0 : decode prog_10_method_14_code 0 = .ok (.aload_n 0, 1) := by decide +kernel
theorem d_SR_takeFrame_1 : decode prog_10_method_14_code 1 = .ok (.getfield 72, 3) := by decide +kernel
theorem d_SR_takeFrame_4 : decode prog_10_method_14_code 4 = .ok (.iload_n 1, 1) := by decide +kernel
theorem d_SR_takeFrame_5 : decode prog_10_method_14_code 5 = .ok (.bipush 9, 2) := by decide +kernel
theorem d_SR_takeFrame_7 : decode prog_10_method_14_code 7 = .ok (.iadd, 1) := by decide +kernel
theorem d_SR_takeFrame_8 : decode prog_10_method_14_code 8 = .ok (.invokevirtual 123, 3) := by decide +kernel
theorem d_SR_takeFrame_11 : decode prog_10_method_14_code 11 = .ok (.istore_n 3, 1) := by decide +kernel
theorem d_SR_takeFrame_12 : decode prog_10_method_14_code 12 = .ok (.iload_n 2, 1) := by decide +kernel
theorem d_SR_takeFrame_13 : decode prog_10_method_14_code 13 = .ok (.bipush 8, 2) := by decide +kernel
theorem d_SR_takeFrame_15 : decode prog_10_method_14_code 15 = .ok (.if_icmp .lt 13, 3) := by decide +kernel
theorem d_SR_takeFrame_18 : decode prog_10_method_14_code 18 = .ok (.iload_n 2, 1) := by decide +kernel
theorem d_SR_takeFrame_19 : decode prog_10_method_14_code 19 = .ok (.bipush 8, 2) := by decide +kernel
theorem d_SR_takeFrame_21 : decode prog_10_method_14_code 21 = .ok (.iconst 3, 1) := by decide +kernel
theorem d_SR_takeFrame_22 : decode prog_10_method_14_code 22 = .ok (.iload_n 3, 1) := by decide +kernel
theorem d_SR_takeFrame_23 : decode prog_10_method_14_code 23 = .ok (.imul, 1) := by decide +kernel
theorem d_SR_takeFrame_24 : decode prog_10_method_14_code 24 = .ok (.iadd, 1) := by decide +kernel
theorem d_SR_takeFrame_25 : decode prog_10_method_14_code 25 = .ok (.if_icmp .eq 5, 3) := by decide +kernel
theorem d_SR_takeFrame_28 : decode prog_10_method_14_code 28 = .ok (.iconst 3, 1) := by decide +kernel
theorem d_SR_takeFrame_29 : decode prog_10_method_14_code 29 = .ok (.ireturn, 1) := by decide +kernel
theorem d_SR_takeFrame_30 : decode prog_10_method_14_code 30 = .ok (.aload_n 0, 1) := by decide +kernel
theorem d_SR_takeFrame_31 : decode prog_10_method_14_code 31 = .ok (.getfield 72, 3) := by decide +kernel
theorem d_SR_takeFrame_34 : decode prog_10_method_14_code 34 = .ok (.iload_n 1, 1) := by decide +kernel
theorem d_SR_takeFrame_35 : decode prog_10_method_14_code 35 = .ok (.iconst 4, 1) := by decide +kernel
theorem d_SR_takeFrame_36 : decode prog_10_method_14_code 36 = .ok (.iadd, 1) := by decide +kernel
theorem d_SR_takeFrame_37 : decode prog_10_method_14_code 37 = .ok (.invokevirtual 123, 3) := by decide +kernel
theorem d_SR_takeFrame_40 : decode prog_10_method_14_code 40 = .ok (.istore 4, 2) := by decide +kernel
theorem d_SR_takeFrame_42 : decode prog_10_method_14_code 42 = .ok (.aload_n 0, 1) := by decide +kernel
theorem d_SR_takeFrame_43 : decode prog_10_method_14_code 43 = .ok (.getfield 72, 3) := by decide +kernel
theorem d_SR_takeFrame_46 : decode prog_10_method_14_code 46 = .ok (.iload_n 1, 1) := by decide +kernel
theorem d_SR_takeFrame_47 : decode prog_10_method_14_code 47 = .ok (.iconst 5, 1) := by decide +kernel
theorem d_SR_takeFrame_48 : decode prog_10_method_14_code 48 = .ok (.iadd, 1) := by decide +kernel
theorem d_SR_takeFrame_49 : decode prog_10_method_14_code 49 = .ok (.invokevirtual 146, 3) := by decide +kernel
theorem d_SR_takeFrame_52 : decode prog_10_method_14_code 52 = .ok (.istore 5, 2) := by decide +kernel
theorem d_SR_takeFrame_54 : decode prog_10_method_14_code 54 = .ok (.aload_n 0, 1) := by decide +kernel
theorem d_SR_takeFrame_55 : decode prog_10_method_14_code 55 = .ok (.getfield 72, 3) := by decide +kernel
theorem d_SR_takeFrame_58 : decode prog_10_method_14_code 58 = .ok (.iload_n 1, 1) := by decide +kernel
theorem d_SR_takeFrame_59 : decode prog_10_method_14_code 59 = .ok (.bipush 7, 2) := by decide +kernel
theorem d_SR_takeFrame_61 : decode prog_10_method_14_code 61 = .ok (.iadd, 1) := by decide +kernel
theorem d_SR_takeFrame_62 : decode prog_10_method_14_code 62 = .ok (.invokevirtual 146, 3) := by decide +kernel
theorem d_SR_takeFrame_65 : decode prog_10_method_14_code 65 = .ok (.istore 6, 2) := by decide +kernel
theorem d_SR_takeFrame_67 : decode prog_10_method_14_code 67 = .ok (.iload 6, 2) := by decide +kernel
theorem d_SR_takeFrame_69 : decode prog_10_method_14_code 69 = .ok (.iload 5, 2) := by decide +kernel
theorem d_SR_takeFrame_71 : decode prog_10_method_14_code 71 = .ok (.iload 4, 2) := by decide +kernel
theorem d_SR_takeFrame_73 : decode prog_10_method_14_code 73 = .ok (.iload_n 3, 1) := by decide +kernel
theorem d_SR_takeFrame_74 : decode prog_10_method_14_code 74 = .ok (.invokestatic 180, 3) := by decide +kernel
theorem d_SR_takeFrame_77 : decode prog_10_method_14_code 77 = .ok (.ifCond .ne 5, 3) := by decide +kernel
theorem d_SR_takeFrame_80 : decode prog_10_method_14_code 80 = .ok (.iconst 4, 1) := by decide +kernel
theorem d_SR_takeFrame_81 : decode prog_10_method_14_code 81 = .ok (.ireturn, 1) := by decide +kernel
theorem d_SR_takeFrame_82 : decode prog_10_method_14_code 82 = .ok (.iconst 0, 1) := by decide +kernel
theorem d_SR_takeFrame_83 : decode prog_10_method_14_code 83 = .ok (.istore 7, 2) := by decide +kernel
theorem d_SR_takeFrame_85 : decode prog_10_method_14_code 85 = .ok (.iload 7, 2) := by decide +kernel
theorem d_SR_takeFrame_87 : decode prog_10_method_14_code 87 = .ok (.iload_n 3, 1) := by decide +kernel
theorem d_SR_takeFrame_88 : decode prog_10_method_14_code 88 = .ok (.if_icmp .ge 68, 3) := by decide +kernel
theorem d_SR_takeFrame_91 : decode prog_10_method_14_code 91 = .ok (.iload_n 1, 1) := by decide +kernel
theorem d_SR_takeFrame_92 : decode prog_10_method_14_code 92 = .ok (.bipush 10, 2) := by decide +kernel
theorem d_SR_takeFrame_94 : decode prog_10_method_14_code 94 = .ok (.iadd, 1) := by decide +kernel
theorem d_SR_takeFrame_95 : decode prog_10_method_14_code 95 = .ok (.iconst 3, 1) := by decide +kernel
theorem d_SR_takeFrame_96 : decode prog_10_method_14_code 96 = .ok (.iload 7, 2) := by decide +kernel
theorem d_SR_takeFrame_98 : decode prog_10_method_14_code 98 = .ok (.imul, 1) := by decide +kernel
theorem d_SR_takeFrame_99 : decode prog_10_method_14_code 99 = .ok (.iadd, 1) := by decide +kernel
theorem d_SR_takeFrame_100 : decode prog_10_method_14_code 100 = .ok (.istore 8, 2) := by decide +kernel
theorem d_SR_takeFrame_102 : decode prog_10_method_14_code 102 = .ok (.aload_n 0, 1) := by decide +kernel
theorem d_SR_takeFrame_103 : decode prog_10_method_14_code 103 = .ok (.getfield 72, 3) := by decide +kernel
theorem d_SR_takeFrame_106 : decode prog_10_method_14_code 106 = .ok (.iload 8, 2) := by decide +kernel
theorem d_SR_takeFrame_108 : decode prog_10_method_14_code 108 = .ok (.invokevirtual 123, 3) := by decide +kernel
theorem d_SR_takeFrame_111 : decode prog_10_method_14_code 111 = .ok (.iload 7, 2) := by decide +kernel
theorem d_SR_takeFrame_113 : decode prog_10_method_14_code 113 = .ok (.iconst 1, 1) := by decide +kernel
theorem d_SR_takeFrame_114 : decode prog_10_method_14_code 114 = .ok (.iadd, 1) := by decide +kernel
theorem d_SR_takeFrame_115 : decode prog_10_method_14_code 115 = .ok (.if_icmp .ne 33, 3) := by decide +kernel
theorem d_SR_takeFrame_118 : decode prog_10_method_14_code 118 = .ok (.aload_n 0, 1) := by decide +kernel
theorem d_SR_takeFrame_119 : decode prog_10_method_14_code 119 = .ok (.getfield 72, 3) := by decide +kernel
theorem d_SR_takeFrame_122 : decode prog_10_method_14_code 122 = .ok (.iload 8, 2) := by decide +kernel
theorem d_SR_takeFrame_124 : decode prog_10_method_14_code 124 = .ok (.iconst 1, 1) := by decide +kernel
theorem d_SR_takeFrame_125 : decode prog_10_method_14_code 125 = .ok (.iadd, 1) := by decide +kernel
theorem d_SR_takeFrame_126 : decode prog_10_method_14_code 126 = .ok (.invokevirtual 123, 3) := by decide +kernel
theorem d_SR_takeFrame_129 : decode prog_10_method_14_code 129 = .ok (.bipush 17, 2) := by decide +kernel
theorem d_SR_takeFrame_131 : decode prog_10_method_14_code 131 = .ok (.if_icmp .ne 17, 3) := by decide +kernel
theorem d_SR_takeFrame_134 : decode prog_10_method_14_code 134 = .ok (.aload_n 0, 1) := by decide +kernel
theorem d_SR_takeFrame_135 : decode prog_10_method_14_code 135 = .ok (.getfield 72, 3) := by decide +kernel
theorem d_SR_takeFrame_138 : decode prog_10_method_14_code 138 = .ok (.iload 8, 2) := by decide +kernel
theorem d_SR_takeFrame_140 : decode prog_10_method_14_code 140 = .ok (.iconst 2, 1) := by decide +kernel
theorem d_SR_takeFrame_141 : decode prog_10_method_14_code 141 = .ok (.iadd, 1) := by decide +kernel
theorem d_SR_takeFrame_142 : decode prog_10_method_14_code 142 = .ok (.invokevirtual 123, 3) := by decide +kernel
theorem d_SR_takeFrame_145 : decode prog_10_method_14_code 145 = .ok (.ifCond .eq 5, 3) := by decide +kernel
theorem d_SR_takeFrame_148 : decode prog_10_method_14_code 148 = .ok (.iconst 4, 1) := by decide +kernel
theorem d_SR_takeFrame_149 : decode prog_10_method_14_code 149 = .ok (.ireturn, 1) := by decide +kernel
theorem d_SR_takeFrame_150 : decode prog_10_method_14_code 150 = .ok (.iinc 7 1, 3) := by decide +kernel
theorem d_SR_takeFrame_153 : decode prog_10_method_14_code 153 = .ok (.goto (-68), 3) := by decide +kernel
theorem d_SR_takeFrame_156 : decode prog_10_method_14_code 156 = .ok (.aload_n 0, 1) := by decide +kernel
theorem d_SR_takeFrame_157 : decode prog_10_method_14_code 157 = .ok (.getfield 12, 3) := by decide +kernel
theorem d_SR_takeFrame_160 : decode prog_10_method_14_code 160 = .ok (.iload 6, 2) := by decide +kernel
theorem d_SR_takeFrame_162 : decode prog_10_method_14_code 162 = .ok (.iload 5, 2) := by decide +kernel
theorem d_SR_takeFrame_164 : decode prog_10_method_14_code 164 = .ok (.iload 4, 2) := by decide +kernel
theorem d_SR_takeFrame_166 : decode prog_10_method_14_code 166 = .ok (.iload_n 3, 1) := by decide +kernel
theorem d_SR_takeFrame_167 : decode prog_10_method_14_code 167 = .ok (.invokevirtual 184, 3) := by decide +kernel
theorem d_SR_takeFrame_170 : decode prog_10_method_14_code 170 = .ok (.iconst 0, 1) := by decide +kernel
theorem d_SR_takeFrame_171 : decode prog_10_method_14_code 171 = .ok (.ireturn, 1) := by decide +kernel
def L_SR_takeFrame_85 (r0 : Nat) (b1 : Int32) (b2 : Int32) (b3 : Int32) (b4 : Int32) (b5 : Int32) (b6 : Int32) (σ : Mem) : Nat → Int32 →  Option ((Int32) ⊕ Int32)
  | 0, _ => none
  | n + 1, a7 =>
  if b3 ≤ a7 then
  some (.inl a7)
  else
  lt ((b1 + (10 : Int32)) + ((3 : Int32) * a7)) fun v15 =>
  if (f_BY_get (wtg r0 0) v15 σ) = (a7 + (1 : Int32)) then
  if (f_BY_get (wtg r0 0) (v15 + (1 : Int32)) σ) = (17 : Int32) then
  if (f_BY_get (wtg r0 0) (v15 + (2 : Int32)) σ) = 0 then
  L_SR_takeFrame_85 r0 b1 b2 b3 b4 b5 b6 σ n (a7 + (1 : Int32))
  else
  some (.inr (4 : Int32))
  else
  some (.inr (4 : Int32))
  else
  some (.inr (4 : Int32))
def f_SR_takeFrame (k0 : Nat) (x1 : Int32) (x2 : Int32) (σ : Mem) : Option (Int32 × Mem) :=
  lt (f_BY_get (wtg k0 0) (x1 + (9 : Int32)) σ) fun v1 =>
  if x2 < (8 : Int32) then
  some ((3 : Int32), σ)
  else
  if x2 = ((8 : Int32) + ((3 : Int32) * v1)) then
  lt (f_BY_get (wtg k0 0) (x1 + (4 : Int32)) σ) fun v10 =>
  lt (f_BY_wide (wtg k0 0) (x1 + (5 : Int32)) σ) fun v11 =>
  lt (f_BY_wide (wtg k0 0) (x1 + (7 : Int32)) σ) fun v12 =>
  if (f_PI_mayMeasure v12 v11 v10 v1 σ) = 0 then
  some ((4 : Int32), σ)
  else
  (L_SR_takeFrame_85 k0 x1 x2 v1 v10 v11 v12 σ 9999 (0 : Int32)).bind fun q33_ => ecase q33_ (fun q33 =>
  lt (f_PI_measure (wtg k0 1) v12 v11 v10 v1 σ) fun σ34 =>
  some ((0 : Int32), σ34)) (fun e35 => some (e35, σ))
  else
  some ((3 : Int32), σ)
set_option maxHeartbeats 4000000 in
set_option maxRecDepth 100000 in
theorem wL_SR_takeFrame_85 {F : Fx} (C : Ctx F prog_10_method_14_code 9 "LineFrames$StreamReader" (some .int) 2 42) {cv : Option ((Int32) ⊕ Int32) → Option Rs} (h0 : cv none = none) (r0 : Nat) (hr0 : Is r0 9) (b1 : Int32) (b2 : Int32) (b3 : Int32) (b4 : Int32) (b5 : Int32) (b6 : Int32) (σ : Mem) (hR : ∀ (e : Int32) (ρ : Rs), cv (some (.inr e)) = some ρ → ρ = (.inl (some (.int e)), σ)) (hex : ∀ q : Int32, J F 9 cv (some (.inl q)) σ 156 [(0, .ref (fad F r0)), (1, .int b1), (2, .int b2), (3, .int b3), (4, .int b4), (5, .int b5), (6, .int b6), (7, .int q)] []) : ∀ (n : Nat) (a7 : Int32), J F 9 cv (L_SR_takeFrame_85 r0 b1 b2 b3 b4 b5 b6 σ n a7) σ 85 [(0, .ref (fad F r0)), (1, .int b1), (2, .int b2), (3, .int b3), (4, .int b4), (5, .int b5), (6, .int b6), (7, .int a7)] [] := by
  intro n
  induction n with
  | zero => intro a7 hE; rw [L_SR_takeFrame_85, h0] at hE; cases hE
  | succ n ih =>
    intro a7
    rw [L_SR_takeFrame_85]
    refine j_iload C d_SR_takeFrame_85 7 rfl ?_
    refine j_iload_n C d_SR_takeFrame_87 3 rfl ?_
    refine j_icmp_ge (tgt := 156) C d_SR_takeFrame_88 (by decide) (fun c14 => ?_) (fun c14 => ?_)
    · exact hex a7
    · refine j_iload_n C d_SR_takeFrame_91 1 rfl ?_
      refine j_bipush (v := (10 : Int32)) C d_SR_takeFrame_92 (by decide) ?_
      refine j_iadd C d_SR_takeFrame_94 ?_
      refine j_iconst (v := (3 : Int32)) C d_SR_takeFrame_95 (by decide) ?_
      refine j_iload C d_SR_takeFrame_96 7 rfl ?_
      refine j_imul C d_SR_takeFrame_98 ?_
      refine j_iadd C d_SR_takeFrame_99 ?_
      refine j_nm (fun v15 v15_e => ?_)
      refine j_istore (lv9 := [(0, .ref (fad F r0)), (1, .int b1), (2, .int b2), (3, .int b3), (4, .int b4), (5, .int b5), (6, .int b6), (7, .int a7), (8, .int v15)]) C d_SR_takeFrame_100 rfl rfl (by decide) ?_
      refine j_aload_n C d_SR_takeFrame_102 0 rfl ?_
      refine j_getR C hr0 fl_SR_72 rfl d_SR_takeFrame_103 ?_
      refine j_iload C d_SR_takeFrame_106 8 rfl ?_
      refine j_callVi C mv_SR_123 [.int v15] [] (tg_9_0 _ hr0) (c_BY_get (tg_9_0 _ hr0) v15 σ) rfl rfl (by decide) (Nat.le_of_ble_eq_true rfl) d_SR_takeFrame_108 ?_
      refine j_iload C d_SR_takeFrame_111 7 rfl ?_
      refine j_iconst (v := (1 : Int32)) C d_SR_takeFrame_113 (by decide) ?_
      refine j_iadd C d_SR_takeFrame_114 ?_
      refine j_icmp_ne (tgt := 148) C d_SR_takeFrame_115 (by decide) (fun c24 => ?_) (fun c24 => ?_)
      · refine j_iconst (v := (4 : Int32)) C d_SR_takeFrame_148 (by decide) ?_
        exact j_ireti C (hR (4 : Int32)) d_SR_takeFrame_149
      · refine j_aload_n C d_SR_takeFrame_118 0 rfl ?_
        refine j_getR C hr0 fl_SR_72 rfl d_SR_takeFrame_119 ?_
        refine j_iload C d_SR_takeFrame_122 8 rfl ?_
        refine j_iconst (v := (1 : Int32)) C d_SR_takeFrame_124 (by decide) ?_
        refine j_iadd C d_SR_takeFrame_125 ?_
        refine j_callVi C mv_SR_123 [.int (v15 + (1 : Int32))] [] (tg_9_0 _ hr0) (c_BY_get (tg_9_0 _ hr0) (v15 + (1 : Int32)) σ) rfl rfl (by decide) (Nat.le_of_ble_eq_true rfl) d_SR_takeFrame_126 ?_
        refine j_bipush (v := (17 : Int32)) C d_SR_takeFrame_129 (by decide) ?_
        refine j_icmp_ne (tgt := 148) C d_SR_takeFrame_131 (by decide) (fun c31 => ?_) (fun c31 => ?_)
        · refine j_iconst (v := (4 : Int32)) C d_SR_takeFrame_148 (by decide) ?_
          exact j_ireti C (hR (4 : Int32)) d_SR_takeFrame_149
        · refine j_aload_n C d_SR_takeFrame_134 0 rfl ?_
          refine j_getR C hr0 fl_SR_72 rfl d_SR_takeFrame_135 ?_
          refine j_iload C d_SR_takeFrame_138 8 rfl ?_
          refine j_iconst (v := (2 : Int32)) C d_SR_takeFrame_140 (by decide) ?_
          refine j_iadd C d_SR_takeFrame_141 ?_
          refine j_callVi C mv_SR_123 [.int (v15 + (2 : Int32))] [] (tg_9_0 _ hr0) (c_BY_get (tg_9_0 _ hr0) (v15 + (2 : Int32)) σ) rfl rfl (by decide) (Nat.le_of_ble_eq_true rfl) d_SR_takeFrame_142 ?_
          refine j_if_eq (tgt := 150) C d_SR_takeFrame_145 (by decide) (fun c32 => ?_) (fun c32 => ?_)
          · refine j_iinc (v := (a7 + (1 : Int32))) (lv9 := [(0, .ref (fad F r0)), (1, .int b1), (2, .int b2), (3, .int b3), (4, .int b4), (5, .int b5), (6, .int b6), (7, .int (a7 + (1 : Int32))), (8, .int v15)]) C d_SR_takeFrame_150 7 rfl rfl rfl rfl (by decide) ?_
            refine j_goto (tgt := 85) C d_SR_takeFrame_153 (by decide) ?_
            refine j_sub (lv9 := [(0, .ref (fad F r0)), (1, .int b1), (2, .int b2), (3, .int b3), (4, .int b4), (5, .int b5), (6, .int b6), (7, .int (a7 + (1 : Int32)))]) [0, 1, 2, 3, 4, 5, 6, 7] rfl ?_
            exact ih (a7 + (1 : Int32))
          · refine j_iconst (v := (4 : Int32)) C d_SR_takeFrame_148 (by decide) ?_
            exact j_ireti C (hR (4 : Int32)) d_SR_takeFrame_149
set_option maxHeartbeats 4000000 in
set_option maxRecDepth 100000 in
theorem w_SR_takeFrame {F : Fx} (C : Ctx F prog_10_method_14_code 9 "LineFrames$StreamReader" (some .int) 2 42) {k0 : Nat} (h0k : Is k0 9) (x1 : Int32) (x2 : Int32) (σ : Mem) : J F 9 (cvO cvIM) (f_SR_takeFrame k0 x1 x2 σ) σ 0 [(0, .ref (fad F k0)), (1, .int x1), (2, .int x2)] [] := by
  unfold f_SR_takeFrame
  refine j_aload_n C d_SR_takeFrame_0 0 rfl ?_
  refine j_getR C h0k fl_SR_72 rfl d_SR_takeFrame_1 ?_
  refine j_iload_n C d_SR_takeFrame_4 1 rfl ?_
  refine j_bipush (v := (9 : Int32)) C d_SR_takeFrame_5 (by decide) ?_
  refine j_iadd C d_SR_takeFrame_7 ?_
  refine j_callVi C mv_SR_123 [.int (x1 + (9 : Int32))] [] (tg_9_0 _ h0k) (c_BY_get (tg_9_0 _ h0k) (x1 + (9 : Int32)) σ) rfl rfl (by decide) (Nat.le_of_ble_eq_true rfl) d_SR_takeFrame_8 ?_
  refine j_nm (fun v1 v1_e => ?_)
  refine j_istore_n (lv9 := [(0, .ref (fad F k0)), (1, .int x1), (2, .int x2), (3, .int v1)]) C d_SR_takeFrame_11 rfl rfl (by decide) ?_
  refine j_iload_n C d_SR_takeFrame_12 2 rfl ?_
  refine j_bipush (v := (8 : Int32)) C d_SR_takeFrame_13 (by decide) ?_
  refine j_icmp_lt (tgt := 28) C d_SR_takeFrame_15 (by decide) (fun c8 => ?_) (fun c8 => ?_)
  · refine j_iconst (v := (3 : Int32)) C d_SR_takeFrame_28 (by decide) ?_
    exact j_ireti C (fun ρ h => leaf_eq h) d_SR_takeFrame_29
  · refine j_iload_n C d_SR_takeFrame_18 2 rfl ?_
    refine j_bipush (v := (8 : Int32)) C d_SR_takeFrame_19 (by decide) ?_
    refine j_iconst (v := (3 : Int32)) C d_SR_takeFrame_21 (by decide) ?_
    refine j_iload_n C d_SR_takeFrame_22 3 rfl ?_
    refine j_imul C d_SR_takeFrame_23 ?_
    refine j_iadd C d_SR_takeFrame_24 ?_
    refine j_icmp_eq (tgt := 30) C d_SR_takeFrame_25 (by decide) (fun c9 => ?_) (fun c9 => ?_)
    · refine j_aload_n C d_SR_takeFrame_30 0 rfl ?_
      refine j_getR C h0k fl_SR_72 rfl d_SR_takeFrame_31 ?_
      refine j_iload_n C d_SR_takeFrame_34 1 rfl ?_
      refine j_iconst (v := (4 : Int32)) C d_SR_takeFrame_35 (by decide) ?_
      refine j_iadd C d_SR_takeFrame_36 ?_
      refine j_callVi C mv_SR_123 [.int (x1 + (4 : Int32))] [] (tg_9_0 _ h0k) (c_BY_get (tg_9_0 _ h0k) (x1 + (4 : Int32)) σ) rfl rfl (by decide) (Nat.le_of_ble_eq_true rfl) d_SR_takeFrame_37 ?_
      refine j_nm (fun v10 v10_e => ?_)
      refine j_istore (lv9 := [(0, .ref (fad F k0)), (1, .int x1), (2, .int x2), (3, .int v1), (4, .int v10)]) C d_SR_takeFrame_40 rfl rfl (by decide) ?_
      refine j_aload_n C d_SR_takeFrame_42 0 rfl ?_
      refine j_getR C h0k fl_SR_72 rfl d_SR_takeFrame_43 ?_
      refine j_iload_n C d_SR_takeFrame_46 1 rfl ?_
      refine j_iconst (v := (5 : Int32)) C d_SR_takeFrame_47 (by decide) ?_
      refine j_iadd C d_SR_takeFrame_48 ?_
      refine j_callVi C mv_SR_146 [.int (x1 + (5 : Int32))] [] (tg_9_0 _ h0k) (c_BY_wide (tg_9_0 _ h0k) (x1 + (5 : Int32)) σ) rfl rfl (by decide) (Nat.le_of_ble_eq_true rfl) d_SR_takeFrame_49 ?_
      refine j_nm (fun v11 v11_e => ?_)
      refine j_istore (lv9 := [(0, .ref (fad F k0)), (1, .int x1), (2, .int x2), (3, .int v1), (4, .int v10), (5, .int v11)]) C d_SR_takeFrame_52 rfl rfl (by decide) ?_
      refine j_aload_n C d_SR_takeFrame_54 0 rfl ?_
      refine j_getR C h0k fl_SR_72 rfl d_SR_takeFrame_55 ?_
      refine j_iload_n C d_SR_takeFrame_58 1 rfl ?_
      refine j_bipush (v := (7 : Int32)) C d_SR_takeFrame_59 (by decide) ?_
      refine j_iadd C d_SR_takeFrame_61 ?_
      refine j_callVi C mv_SR_146 [.int (x1 + (7 : Int32))] [] (tg_9_0 _ h0k) (c_BY_wide (tg_9_0 _ h0k) (x1 + (7 : Int32)) σ) rfl rfl (by decide) (Nat.le_of_ble_eq_true rfl) d_SR_takeFrame_62 ?_
      refine j_nm (fun v12 v12_e => ?_)
      refine j_istore (lv9 := [(0, .ref (fad F k0)), (1, .int x1), (2, .int x2), (3, .int v1), (4, .int v10), (5, .int v11), (6, .int v12)]) C d_SR_takeFrame_65 rfl rfl (by decide) ?_
      refine j_iload C d_SR_takeFrame_67 6 rfl ?_
      refine j_iload C d_SR_takeFrame_69 5 rfl ?_
      refine j_iload C d_SR_takeFrame_71 4 rfl ?_
      refine j_iload_n C d_SR_takeFrame_73 3 rfl ?_
      refine j_callSi C ms_SR_180 [.int v12, .int v11, .int v10, .int v1] [] (c_PI_mayMeasure v12 v11 v10 v1 σ) rfl rfl (by decide) (Nat.le_of_ble_eq_true rfl) d_SR_takeFrame_74 ?_
      refine j_if_ne (tgt := 82) C d_SR_takeFrame_77 (by decide) (fun c13 => ?_) (fun c13 => ?_)
      · refine j_iconst (v := (0 : Int32)) C d_SR_takeFrame_82 (by decide) ?_
        refine j_istore (lv9 := [(0, .ref (fad F k0)), (1, .int x1), (2, .int x2), (3, .int v1), (4, .int v10), (5, .int v11), (6, .int v12), (7, .int (0 : Int32))]) C d_SR_takeFrame_83 rfl rfl (by decide) ?_
        refine j_loop (wL_SR_takeFrame_85 C rfl k0 h0k x1 x2 v1 v10 v11 v12 σ (fun e35 ρ h => leaf_eq h) (fun q33 => j_some ?_) 9999 (0 : Int32))
        refine j_ecl ?_
        refine j_aload_n C d_SR_takeFrame_156 0 rfl ?_
        refine j_getR C h0k fl_SR_12 rfl d_SR_takeFrame_157 ?_
        refine j_iload C d_SR_takeFrame_160 6 rfl ?_
        refine j_iload C d_SR_takeFrame_162 5 rfl ?_
        refine j_iload C d_SR_takeFrame_164 4 rfl ?_
        refine j_iload_n C d_SR_takeFrame_166 3 rfl ?_
        refine j_callVv C mv_SR_184 [.int v12, .int v11, .int v10, .int v1] [] (tg_9_1 _ h0k) (c_PI_measure (tg_9_1 _ h0k) v12 v11 v10 v1 σ) rfl rfl (by decide) (Nat.le_of_ble_eq_true rfl) d_SR_takeFrame_167 ?_
        refine j_genM (fun σ34 => ?_)
        refine j_iconst (v := (0 : Int32)) C d_SR_takeFrame_170 (by decide) ?_
        exact j_ireti C (fun ρ h => leaf_eq h) d_SR_takeFrame_171
      · refine j_iconst (v := (4 : Int32)) C d_SR_takeFrame_80 (by decide) ?_
        exact j_ireti C (fun ρ h => leaf_eq h) d_SR_takeFrame_81
    · refine j_iconst (v := (3 : Int32)) C d_SR_takeFrame_28 (by decide) ?_
      exact j_ireti C (fun ρ h => leaf_eq h) d_SR_takeFrame_29
theorem c_SR_takeFrame {l : Launch} {D : va_G} {G : GC} {ad : Nat → Nat} {k0 : Nat} (h0k : Is k0 9) (x1 : Int32) (x2 : Int32) (σ : Mem) {q : Int32 × Mem} (hq : f_SR_takeFrame k0 x1 x2 σ = some q) : Ctr l D G ad ⟨"LineFrames$StreamReader", "takeFrame", "(II)I"⟩ prog_10_method_14_code 9 (some .int) 2 42 [.ref (ad k0), .int x1, .int x2] σ (.inl (some (.int q.1)), q.2) := ctr_J (cv := (cvO cvIM)) (E := f_SR_takeFrame k0 x1 x2 σ) (by decide +kernel) (Nat.le_of_ble_eq_true rfl) (by rw [hq]; rfl) (fun F h C => by subst h; exact w_SR_takeFrame C h0k x1 x2 σ)
/-! LineFrames$Picture mayPreset (II)Z -/
theorem d_PI_mayPreset_0 : decode prog_8_method_3_code 0 = .ok (.iload_n 0, 1) := by decide +kernel
theorem d_PI_mayPreset_1 : decode prog_8_method_3_code 1 = .ok (.tableswitch 79 0 2 #[27, 45, 63], 27) := by decide +kernel
theorem d_PI_mayPreset_28 : decode prog_8_method_3_code 28 = .ok (.iload_n 1, 1) := by decide +kernel
theorem d_PI_mayPreset_29 : decode prog_8_method_3_code 29 = .ok (.iconst 3, 1) := by decide +kernel
theorem d_PI_mayPreset_30 : decode prog_8_method_3_code 30 = .ok (.if_icmp .lt 14, 3) := by decide +kernel
theorem d_PI_mayPreset_33 : decode prog_8_method_3_code 33 = .ok (.iload_n 1, 1) := by decide +kernel
theorem d_PI_mayPreset_34 : decode prog_8_method_3_code 34 = .ok (.sipush 255, 3) := by decide +kernel
theorem d_PI_mayPreset_37 : decode prog_8_method_3_code 37 = .ok (.if_icmp .gt 7, 3) := by decide +kernel
theorem d_PI_mayPreset_40 : decode prog_8_method_3_code 40 = .ok (.iconst 1, 1) := by decide +kernel
theorem d_PI_mayPreset_41 : decode prog_8_method_3_code 41 = .ok (.goto 4, 3) := by decide +kernel
theorem d_PI_mayPreset_44 : decode prog_8_method_3_code 44 = .ok (.iconst 0, 1) := by decide +kernel
theorem d_PI_mayPreset_45 : decode prog_8_method_3_code 45 = .ok (.ireturn, 1) := by decide +kernel
theorem d_PI_mayPreset_46 : decode prog_8_method_3_code 46 = .ok (.iload_n 1, 1) := by decide +kernel
theorem d_PI_mayPreset_47 : decode prog_8_method_3_code 47 = .ok (.iconst 1, 1) := by decide +kernel
theorem d_PI_mayPreset_48 : decode prog_8_method_3_code 48 = .ok (.if_icmp .lt 14, 3) := by decide +kernel
theorem d_PI_mayPreset_51 : decode prog_8_method_3_code 51 = .ok (.iload_n 1, 1) := by decide +kernel
theorem d_PI_mayPreset_52 : decode prog_8_method_3_code 52 = .ok (.sipush 255, 3) := by decide +kernel
theorem d_PI_mayPreset_55 : decode prog_8_method_3_code 55 = .ok (.if_icmp .gt 7, 3) := by decide +kernel
theorem d_PI_mayPreset_58 : decode prog_8_method_3_code 58 = .ok (.iconst 1, 1) := by decide +kernel
theorem d_PI_mayPreset_59 : decode prog_8_method_3_code 59 = .ok (.goto 4, 3) := by decide +kernel
theorem d_PI_mayPreset_62 : decode prog_8_method_3_code 62 = .ok (.iconst 0, 1) := by decide +kernel
theorem d_PI_mayPreset_63 : decode prog_8_method_3_code 63 = .ok (.ireturn, 1) := by decide +kernel
theorem d_PI_mayPreset_64 : decode prog_8_method_3_code 64 = .ok (.iload_n 1, 1) := by decide +kernel
theorem d_PI_mayPreset_65 : decode prog_8_method_3_code 65 = .ok (.ifCond .lt 13, 3) := by decide +kernel
theorem d_PI_mayPreset_68 : decode prog_8_method_3_code 68 = .ok (.iload_n 1, 1) := by decide +kernel
theorem d_PI_mayPreset_69 : decode prog_8_method_3_code 69 = .ok (.bipush 12, 2) := by decide +kernel
theorem d_PI_mayPreset_71 : decode prog_8_method_3_code 71 = .ok (.if_icmp .gt 7, 3) := by decide +kernel
theorem d_PI_mayPreset_74 : decode prog_8_method_3_code 74 = .ok (.iconst 1, 1) := by decide +kernel
theorem d_PI_mayPreset_75 : decode prog_8_method_3_code 75 = .ok (.goto 4, 3) := by decide +kernel
theorem d_PI_mayPreset_78 : decode prog_8_method_3_code 78 = .ok (.iconst 0, 1) := by decide +kernel
theorem d_PI_mayPreset_79 : decode prog_8_method_3_code 79 = .ok (.ireturn, 1) := by decide +kernel
theorem d_PI_mayPreset_80 : decode prog_8_method_3_code 80 = .ok (.iconst 0, 1) := by decide +kernel
theorem d_PI_mayPreset_81 : decode prog_8_method_3_code 81 = .ok (.ireturn, 1) := by decide +kernel
def f_PI_mayPreset (x0 : Int32) (x1 : Int32) (σ : Mem) : Int32 :=
  if x0 = 0 then
  (if x1 < (3 : Int32) then (0 : Int32) else (if (255 : Int32) < x1 then (0 : Int32) else (1 : Int32)))
  else
  if x0 = 1 then
  (if x1 < (1 : Int32) then (0 : Int32) else (if (255 : Int32) < x1 then (0 : Int32) else (1 : Int32)))
  else
  if x0 = 2 then
  (if x1 < 0 then (0 : Int32) else (if (12 : Int32) < x1 then (0 : Int32) else (1 : Int32)))
  else
  (0 : Int32)
set_option maxHeartbeats 4000000 in
set_option maxRecDepth 100000 in
theorem w_PI_mayPreset {F : Fx} (C : Ctx F prog_8_method_3_code 2 "LineFrames$Picture" (some .boolean) 0 0) (x0 : Int32) (x1 : Int32) (σ : Mem) : J F 2 (cvI σ) (f_PI_mayPreset x0 x1 σ) σ 0 [(0, .int x0), (1, .int x1)] [] := by
  unfold f_PI_mayPreset
  refine j_iload_n C d_PI_mayPreset_0 0 rfl ?_
  refine j_case (fun c1 => ?_) (fun c1 => ?_)
  · refine j_tin (x := x0) (k := 0) (off := 27) (tgt := 28) C d_PI_mayPreset_1 c1 (by decide) (by decide) (by decide) (by decide) ?_
    refine j_iload_n C d_PI_mayPreset_28 1 rfl ?_
    refine j_iconst (v := (3 : Int32)) C d_PI_mayPreset_29 (by decide) ?_
    refine d_icmp_lt (a := (0 : Int32)) (b := (if (255 : Int32) < x1 then (0 : Int32) else (1 : Int32))) (jp := 45) (tgt := 44) C d_PI_mayPreset_30 (by decide) (fun c6 k7 => ?_) (fun c6 k7 => ?_) ?_
    · refine j_iconst (v := (0 : Int32)) C d_PI_mayPreset_44 (by decide) ?_
      exact k7
    · refine j_iload_n C d_PI_mayPreset_33 1 rfl ?_
      refine j_sipush (v := (255 : Int32)) C d_PI_mayPreset_34 (by decide) ?_
      refine d_icmp_gt (a := (0 : Int32)) (b := (1 : Int32)) (jp := 45) (tgt := 44) C d_PI_mayPreset_37 (by decide) (fun c8 k9 => ?_) (fun c8 k9 => ?_) ?_
      · refine j_iconst (v := (0 : Int32)) C d_PI_mayPreset_44 (by decide) ?_
        exact k9
      · refine j_iconst (v := (1 : Int32)) C d_PI_mayPreset_40 (by decide) ?_
        refine j_goto (tgt := 45) C d_PI_mayPreset_41 (by decide) ?_
        exact k9
      exact k7
    exact j_iretz C (fun ρ h => leaf_eq h) (nz01 (ite01 (Or.inl rfl) (ite01 (Or.inl rfl) (Or.inr rfl)))) d_PI_mayPreset_45
  · refine j_case (fun c2 => ?_) (fun c2 => ?_)
    · refine j_tin (x := x0) (k := 1) (off := 45) (tgt := 46) C d_PI_mayPreset_1 c2 (by decide) (by decide) (by decide) (by decide) ?_
      refine j_iload_n C d_PI_mayPreset_46 1 rfl ?_
      refine j_iconst (v := (1 : Int32)) C d_PI_mayPreset_47 (by decide) ?_
      refine d_icmp_lt (a := (0 : Int32)) (b := (if (255 : Int32) < x1 then (0 : Int32) else (1 : Int32))) (jp := 63) (tgt := 62) C d_PI_mayPreset_48 (by decide) (fun c12 k13 => ?_) (fun c12 k13 => ?_) ?_
      · refine j_iconst (v := (0 : Int32)) C d_PI_mayPreset_62 (by decide) ?_
        exact k13
      · refine j_iload_n C d_PI_mayPreset_51 1 rfl ?_
        refine j_sipush (v := (255 : Int32)) C d_PI_mayPreset_52 (by decide) ?_
        refine d_icmp_gt (a := (0 : Int32)) (b := (1 : Int32)) (jp := 63) (tgt := 62) C d_PI_mayPreset_55 (by decide) (fun c14 k15 => ?_) (fun c14 k15 => ?_) ?_
        · refine j_iconst (v := (0 : Int32)) C d_PI_mayPreset_62 (by decide) ?_
          exact k15
        · refine j_iconst (v := (1 : Int32)) C d_PI_mayPreset_58 (by decide) ?_
          refine j_goto (tgt := 63) C d_PI_mayPreset_59 (by decide) ?_
          exact k15
        exact k13
      exact j_iretz C (fun ρ h => leaf_eq h) (nz01 (ite01 (Or.inl rfl) (ite01 (Or.inl rfl) (Or.inr rfl)))) d_PI_mayPreset_63
    · refine j_case (fun c3 => ?_) (fun c3 => ?_)
      · refine j_tin (x := x0) (k := 2) (off := 63) (tgt := 64) C d_PI_mayPreset_1 c3 (by decide) (by decide) (by decide) (by decide) ?_
        refine j_iload_n C d_PI_mayPreset_64 1 rfl ?_
        refine d_if_lt (a := (0 : Int32)) (b := (if (12 : Int32) < x1 then (0 : Int32) else (1 : Int32))) (jp := 79) (tgt := 78) C d_PI_mayPreset_65 (by decide) (fun c18 k19 => ?_) (fun c18 k19 => ?_) ?_
        · refine j_iconst (v := (0 : Int32)) C d_PI_mayPreset_78 (by decide) ?_
          exact k19
        · refine j_iload_n C d_PI_mayPreset_68 1 rfl ?_
          refine j_bipush (v := (12 : Int32)) C d_PI_mayPreset_69 (by decide) ?_
          refine d_icmp_gt (a := (0 : Int32)) (b := (1 : Int32)) (jp := 79) (tgt := 78) C d_PI_mayPreset_71 (by decide) (fun c20 k21 => ?_) (fun c20 k21 => ?_) ?_
          · refine j_iconst (v := (0 : Int32)) C d_PI_mayPreset_78 (by decide) ?_
            exact k21
          · refine j_iconst (v := (1 : Int32)) C d_PI_mayPreset_74 (by decide) ?_
            refine j_goto (tgt := 79) C d_PI_mayPreset_75 (by decide) ?_
            exact k21
          exact k19
        exact j_iretz C (fun ρ h => leaf_eq h) (nz01 (ite01 (Or.inl rfl) (ite01 (Or.inl rfl) (Or.inr rfl)))) d_PI_mayPreset_79
      · refine j_tout (tgt := 80) C d_PI_mayPreset_1 (by decide) (sw_out3 c1 c2 c3) ?_
        refine j_iconst (v := (0 : Int32)) C d_PI_mayPreset_80 (by decide) ?_
        exact j_iretz C (fun ρ h => leaf_eq h) (nz01 (Or.inl rfl)) d_PI_mayPreset_81
theorem c_PI_mayPreset {l : Launch} {D : va_G} {G : GC} {ad : Nat → Nat} (x0 : Int32) (x1 : Int32) (σ : Mem) : Ctr l D G ad ⟨"LineFrames$Picture", "mayPreset", "(II)Z"⟩ prog_8_method_3_code 2 (some .boolean) 0 0 [.int x0, .int x1] σ (.inl (some (.int (f_PI_mayPreset x0 x1 σ))), σ) := ctr_J (cv := (cvI σ)) (E := f_PI_mayPreset x0 x1 σ) (by decide +kernel) (Nat.le_of_ble_eq_true rfl) rfl (fun F h C => by subst h; exact w_PI_mayPreset C x0 x1 σ)
theorem z_PI_mayPreset (x0 : Int32) (x1 : Int32) (σ : Mem) : f_PI_mayPreset x0 x1 σ = 0 ∨ f_PI_mayPreset x0 x1 σ = 1 := by
  unfold f_PI_mayPreset
  try simp only [lt]
  repeat' split
  all_goals first | exact Or.inl rfl | exact Or.inr rfl
/-! LineFrames$StreamReader takePresets (II)I -/
theorem d_SR_takePresets_0 : decode prog_10_method_16_code 0 = .ok (.iload_n 2, 1) := by decide +kernel
theorem d_SR_takePresets_1 : decode prog_10_method_16_code 1 = .ok (.iconst 5, 1) := by decide +kernel
theorem d_SR_takePresets_2 : decode prog_10_method_16_code 2 = .ok (.if_icmp .eq 5, 3) := by decide +kernel
theorem d_SR_takePresets_5 : decode prog_10_method_16_code 5 = .ok (.iconst 3, 1) := by decide +kernel
theorem d_SR_takePresets_6 : decode prog_10_method_16_code 6 = .ok (.ireturn, 1) := by decide +kernel
theorem d_SR_takePresets_7 : decode prog_10_method_16_code 7 = .ok (.aload_n 0, 1) := by decide +kernel
theorem d_SR_takePresets_8 : decode prog_10_method_16_code 8 = .ok (.getfield 72, 3) := by decide +kernel
theorem d_SR_takePresets_11 : decode prog_10_method_16_code 11 = .ok (.iload_n 1, 1) := by decide +kernel
theorem d_SR_takePresets_12 : decode prog_10_method_16_code 12 = .ok (.iconst 5, 1) := by decide +kernel
theorem d_SR_takePresets_13 : decode prog_10_method_16_code 13 = .ok (.iadd, 1) := by decide +kernel
theorem d_SR_takePresets_14 : decode prog_10_method_16_code 14 = .ok (.invokevirtual 123, 3) := by decide +kernel
theorem d_SR_takePresets_17 : decode prog_10_method_16_code 17 = .ok (.istore_n 3, 1) := by decide +kernel
theorem d_SR_takePresets_18 : decode prog_10_method_16_code 18 = .ok (.aload_n 0, 1) := by decide +kernel
theorem d_SR_takePresets_19 : decode prog_10_method_16_code 19 = .ok (.getfield 72, 3) := by decide +kernel
theorem d_SR_takePresets_22 : decode prog_10_method_16_code 22 = .ok (.iload_n 1, 1) := by decide +kernel
theorem d_SR_takePresets_23 : decode prog_10_method_16_code 23 = .ok (.bipush 6, 2) := by decide +kernel
theorem d_SR_takePresets_25 : decode prog_10_method_16_code 25 = .ok (.iadd, 1) := by decide +kernel
theorem d_SR_takePresets_26 : decode prog_10_method_16_code 26 = .ok (.invokevirtual 123, 3) := by decide +kernel
theorem d_SR_takePresets_29 : decode prog_10_method_16_code 29 = .ok (.istore 4, 2) := by decide +kernel
theorem d_SR_takePresets_31 : decode prog_10_method_16_code 31 = .ok (.iconst 0, 1) := by decide +kernel
theorem d_SR_takePresets_32 : decode prog_10_method_16_code 32 = .ok (.iload_n 3, 1) := by decide +kernel
theorem d_SR_takePresets_33 : decode prog_10_method_16_code 33 = .ok (.invokestatic 194, 3) := by decide +kernel
theorem d_SR_takePresets_36 : decode prog_10_method_16_code 36 = .ok (.ifCond .eq 12, 3) := by decide +kernel
theorem d_SR_takePresets_39 : decode prog_10_method_16_code 39 = .ok (.iconst 1, 1) := by decide +kernel
theorem d_SR_takePresets_40 : decode prog_10_method_16_code 40 = .ok (.iload 4, 2) := by decide +kernel
theorem d_SR_takePresets_42 : decode prog_10_method_16_code 42 = .ok (.invokestatic 194, 3) := by decide +kernel
theorem d_SR_takePresets_45 : decode prog_10_method_16_code 45 = .ok (.ifCond .ne 5, 3) := by decide +kernel
theorem d_SR_takePresets_48 : decode prog_10_method_16_code 48 = .ok (.iconst 4, 1) := by decide +kernel
theorem d_SR_takePresets_49 : decode prog_10_method_16_code 49 = .ok (.ireturn, 1) := by decide +kernel
theorem d_SR_takePresets_50 : decode prog_10_method_16_code 50 = .ok (.aload_n 0, 1) := by decide +kernel
theorem d_SR_takePresets_51 : decode prog_10_method_16_code 51 = .ok (.getfield 12, 3) := by decide +kernel
theorem d_SR_takePresets_54 : decode prog_10_method_16_code 54 = .ok (.getfield 198, 3) := by decide +kernel
theorem d_SR_takePresets_57 : decode prog_10_method_16_code 57 = .ok (.iconst 0, 1) := by decide +kernel
theorem d_SR_takePresets_58 : decode prog_10_method_16_code 58 = .ok (.iload_n 3, 1) := by decide +kernel
theorem d_SR_takePresets_59 : decode prog_10_method_16_code 59 = .ok (.invokevirtual 201, 3) := by decide +kernel
theorem d_SR_takePresets_62 : decode prog_10_method_16_code 62 = .ok (.aload_n 0, 1) := by decide +kernel
theorem d_SR_takePresets_63 : decode prog_10_method_16_code 63 = .ok (.getfield 12, 3) := by decide +kernel
theorem d_SR_takePresets_66 : decode prog_10_method_16_code 66 = .ok (.getfield 198, 3) := by decide +kernel
theorem d_SR_takePresets_69 : decode prog_10_method_16_code 69 = .ok (.iconst 1, 1) := by decide +kernel
theorem d_SR_takePresets_70 : decode prog_10_method_16_code 70 = .ok (.iload 4, 2) := by decide +kernel
theorem d_SR_takePresets_72 : decode prog_10_method_16_code 72 = .ok (.invokevirtual 201, 3) := by decide +kernel
theorem d_SR_takePresets_75 : decode prog_10_method_16_code 75 = .ok (.iconst 0, 1) := by decide +kernel
theorem d_SR_takePresets_76 : decode prog_10_method_16_code 76 = .ok (.ireturn, 1) := by decide +kernel
def f_SR_takePresets (k0 : Nat) (x1 : Int32) (x2 : Int32) (σ : Mem) : Int32 × Mem :=
  if x2 = (5 : Int32) then
  lt (f_BY_get (wtg k0 0) (x1 + (5 : Int32)) σ) fun v2 =>
  lt (f_BY_get (wtg k0 0) (x1 + (6 : Int32)) σ) fun v3 =>
  if (f_PI_mayPreset (0 : Int32) v2 σ) = 0 then
  ((4 : Int32), σ)
  else
  if (f_PI_mayPreset (1 : Int32) v3 σ) = 0 then
  ((4 : Int32), σ)
  else
  lt (f_RO_set (wtg (wtg k0 1) 1) (0 : Int32) v2 σ) fun σ12 =>
  lt (f_RO_set (wtg (wtg k0 1) 1) (1 : Int32) v3 σ12) fun σ13 =>
  ((0 : Int32), σ13)
  else
  ((3 : Int32), σ)
set_option maxHeartbeats 4000000 in
set_option maxRecDepth 100000 in
theorem w_SR_takePresets {F : Fx} (C : Ctx F prog_10_method_16_code 5 "LineFrames$StreamReader" (some .int) 1 22) {k0 : Nat} (h0k : Is k0 9) (x1 : Int32) (x2 : Int32) (σ : Mem) : J F 5 cvIM (f_SR_takePresets k0 x1 x2 σ) σ 0 [(0, .ref (fad F k0)), (1, .int x1), (2, .int x2)] [] := by
  unfold f_SR_takePresets
  refine j_iload_n C d_SR_takePresets_0 2 rfl ?_
  refine j_iconst (v := (5 : Int32)) C d_SR_takePresets_1 (by decide) ?_
  refine j_icmp_eq (tgt := 7) C d_SR_takePresets_2 (by decide) (fun c1 => ?_) (fun c1 => ?_)
  · refine j_aload_n C d_SR_takePresets_7 0 rfl ?_
    refine j_getR C h0k fl_SR_72 rfl d_SR_takePresets_8 ?_
    refine j_iload_n C d_SR_takePresets_11 1 rfl ?_
    refine j_iconst (v := (5 : Int32)) C d_SR_takePresets_12 (by decide) ?_
    refine j_iadd C d_SR_takePresets_13 ?_
    refine j_callVi C mv_SR_123 [.int (x1 + (5 : Int32))] [] (tg_9_0 _ h0k) (c_BY_get (tg_9_0 _ h0k) (x1 + (5 : Int32)) σ) rfl rfl (by decide) (Nat.le_of_ble_eq_true rfl) d_SR_takePresets_14 ?_
    refine j_nm (fun v2 v2_e => ?_)
    refine j_istore_n (lv9 := [(0, .ref (fad F k0)), (1, .int x1), (2, .int x2), (3, .int v2)]) C d_SR_takePresets_17 rfl rfl (by decide) ?_
    refine j_aload_n C d_SR_takePresets_18 0 rfl ?_
    refine j_getR C h0k fl_SR_72 rfl d_SR_takePresets_19 ?_
    refine j_iload_n C d_SR_takePresets_22 1 rfl ?_
    refine j_bipush (v := (6 : Int32)) C d_SR_takePresets_23 (by decide) ?_
    refine j_iadd C d_SR_takePresets_25 ?_
    refine j_callVi C mv_SR_123 [.int (x1 + (6 : Int32))] [] (tg_9_0 _ h0k) (c_BY_get (tg_9_0 _ h0k) (x1 + (6 : Int32)) σ) rfl rfl (by decide) (Nat.le_of_ble_eq_true rfl) d_SR_takePresets_26 ?_
    refine j_nm (fun v3 v3_e => ?_)
    refine j_istore (lv9 := [(0, .ref (fad F k0)), (1, .int x1), (2, .int x2), (3, .int v2), (4, .int v3)]) C d_SR_takePresets_29 rfl rfl (by decide) ?_
    refine j_iconst (v := (0 : Int32)) C d_SR_takePresets_31 (by decide) ?_
    refine j_iload_n C d_SR_takePresets_32 3 rfl ?_
    refine j_callSi C ms_SR_194 [.int (0 : Int32), .int v2] [] (c_PI_mayPreset (0 : Int32) v2 σ) rfl rfl (by decide) (Nat.le_of_ble_eq_true rfl) d_SR_takePresets_33 ?_
    refine j_if_eq (tgt := 48) C d_SR_takePresets_36 (by decide) (fun c10 => ?_) (fun c10 => ?_)
    · refine j_iconst (v := (4 : Int32)) C d_SR_takePresets_48 (by decide) ?_
      exact j_ireti C (fun ρ h => leaf_eq h) d_SR_takePresets_49
    · refine j_iconst (v := (1 : Int32)) C d_SR_takePresets_39 (by decide) ?_
      refine j_iload C d_SR_takePresets_40 4 rfl ?_
      refine j_callSi C ms_SR_194 [.int (1 : Int32), .int v3] [] (c_PI_mayPreset (1 : Int32) v3 σ) rfl rfl (by decide) (Nat.le_of_ble_eq_true rfl) d_SR_takePresets_42 ?_
      refine j_if_ne (tgt := 50) C d_SR_takePresets_45 (by decide) (fun c11 => ?_) (fun c11 => ?_)
      · refine j_aload_n C d_SR_takePresets_50 0 rfl ?_
        refine j_getR C h0k fl_SR_12 rfl d_SR_takePresets_51 ?_
        refine j_getR C (tg_9_1 _ h0k) fl_SR_198 rfl d_SR_takePresets_54 ?_
        refine j_iconst (v := (0 : Int32)) C d_SR_takePresets_57 (by decide) ?_
        refine j_iload_n C d_SR_takePresets_58 3 rfl ?_
        refine j_callVv C mv_SR_201 [.int (0 : Int32), .int v2] [] (tg_7_1 _ (tg_9_1 _ h0k)) (c_RO_set (tg_7_1 _ (tg_9_1 _ h0k)) (0 : Int32) v2 σ) rfl rfl (by decide) (Nat.le_of_ble_eq_true rfl) d_SR_takePresets_59 ?_
        refine j_genM (fun σ12 => ?_)
        refine j_aload_n C d_SR_takePresets_62 0 rfl ?_
        refine j_getR C h0k fl_SR_12 rfl d_SR_takePresets_63 ?_
        refine j_getR C (tg_9_1 _ h0k) fl_SR_198 rfl d_SR_takePresets_66 ?_
        refine j_iconst (v := (1 : Int32)) C d_SR_takePresets_69 (by decide) ?_
        refine j_iload C d_SR_takePresets_70 4 rfl ?_
        refine j_callVv C mv_SR_201 [.int (1 : Int32), .int v3] [] (tg_7_1 _ (tg_9_1 _ h0k)) (c_RO_set (tg_7_1 _ (tg_9_1 _ h0k)) (1 : Int32) v3 σ12) rfl rfl (by decide) (Nat.le_of_ble_eq_true rfl) d_SR_takePresets_72 ?_
        refine j_genM (fun σ13 => ?_)
        refine j_iconst (v := (0 : Int32)) C d_SR_takePresets_75 (by decide) ?_
        exact j_ireti C (fun ρ h => leaf_eq h) d_SR_takePresets_76
      · refine j_iconst (v := (4 : Int32)) C d_SR_takePresets_48 (by decide) ?_
        exact j_ireti C (fun ρ h => leaf_eq h) d_SR_takePresets_49
  · refine j_iconst (v := (3 : Int32)) C d_SR_takePresets_5 (by decide) ?_
    exact j_ireti C (fun ρ h => leaf_eq h) d_SR_takePresets_6
theorem c_SR_takePresets {l : Launch} {D : va_G} {G : GC} {ad : Nat → Nat} {k0 : Nat} (h0k : Is k0 9) (x1 : Int32) (x2 : Int32) (σ : Mem) : Ctr l D G ad ⟨"LineFrames$StreamReader", "takePresets", "(II)I"⟩ prog_10_method_16_code 5 (some .int) 1 22 [.ref (ad k0), .int x1, .int x2] σ (.inl (some (.int (f_SR_takePresets k0 x1 x2 σ).1)), (f_SR_takePresets k0 x1 x2 σ).2) := ctr_J (cv := cvIM) (E := f_SR_takePresets k0 x1 x2 σ) (by decide +kernel) (Nat.le_of_ble_eq_true rfl) rfl (fun F h C => by subst h; exact w_SR_takePresets C h0k x1 x2 σ)
/-! LineFrames$Picture top ()I -/
theorem d_PI_top_0 : decode prog_8_method_6_code 0 = .ok (.iconst 1, 1) := by decide +kernel
theorem d_PI_top_1 : decode prog_8_method_6_code 1 = .ok (.aload_n 0, 1) := by decide +kernel
theorem d_PI_top_2 : decode prog_8_method_6_code 2 = .ok (.getfield 43, 3) := by decide +kernel
theorem d_PI_top_5 : decode prog_8_method_6_code 5 = .ok (.ishl, 1) := by decide +kernel
theorem d_PI_top_6 : decode prog_8_method_6_code 6 = .ok (.iconst 1, 1) := by decide +kernel
theorem d_PI_top_7 : decode prog_8_method_6_code 7 = .ok (.isub, 1) := by decide +kernel
theorem d_PI_top_8 : decode prog_8_method_6_code 8 = .ok (.ireturn, 1) := by decide +kernel
def f_PI_top (k0 : Nat) (σ : Mem) : Int32 :=
  (((1 : Int32) <<< ((σ k0 7) &&& 31)) - (1 : Int32))
set_option maxHeartbeats 4000000 in
set_option maxRecDepth 100000 in
theorem w_PI_top {F : Fx} (C : Ctx F prog_8_method_6_code 1 "LineFrames$Picture" (some .int) 0 0) {k0 : Nat} (h0k : Is k0 7) (σ : Mem) : J F 1 (cvI σ) (f_PI_top k0 σ) σ 0 [(0, .ref (fad F k0))] [] := by
  unfold f_PI_top
  refine j_iconst (v := (1 : Int32)) C d_PI_top_0 (by decide) ?_
  refine j_aload_n C d_PI_top_1 0 rfl ?_
  refine j_getI C h0k fl_PI_43 rfl d_PI_top_2 ?_
  refine j_ishl C d_PI_top_5 ?_
  refine j_iconst (v := (1 : Int32)) C d_PI_top_6 (by decide) ?_
  refine j_isub C d_PI_top_7 ?_
  exact j_ireti C (fun ρ h => leaf_eq h) d_PI_top_8
theorem c_PI_top {l : Launch} {D : va_G} {G : GC} {ad : Nat → Nat} {k0 : Nat} (h0k : Is k0 7) (σ : Mem) : Ctr l D G ad ⟨"LineFrames$Picture", "top", "()I"⟩ prog_8_method_6_code 1 (some .int) 0 0 [.ref (ad k0)] σ (.inl (some (.int (f_PI_top k0 σ))), σ) := ctr_J (cv := (cvI σ)) (E := f_PI_top k0 σ) (by decide +kernel) (Nat.le_of_ble_eq_true rfl) rfl (fun F h C => by subst h; exact w_PI_top C h0k σ)
/-! LineFrames$Picture hasComponent (I)Z -/
theorem d_PI_hasComponent_0 : decode prog_8_method_8_code 0 = .ok (.iload_n 1, 1) := by decide +kernel
theorem d_PI_hasComponent_1 : decode prog_8_method_8_code 1 = .ok (.ifCond .lt 15, 3) := by decide +kernel
theorem d_PI_hasComponent_4 : decode prog_8_method_8_code 4 = .ok (.iload_n 1, 1) := by decide +kernel
theorem d_PI_hasComponent_5 : decode prog_8_method_8_code 5 = .ok (.aload_n 0, 1) := by decide +kernel
theorem d_PI_hasComponent_6 : decode prog_8_method_8_code 6 = .ok (.getfield 46, 3) := by decide +kernel
theorem d_PI_hasComponent_9 : decode prog_8_method_8_code 9 = .ok (.if_icmp .ge 7, 3) := by decide +kernel
theorem d_PI_hasComponent_12 : decode prog_8_method_8_code 12 = .ok (.iconst 1, 1) := by decide +kernel
theorem d_PI_hasComponent_13 : decode prog_8_method_8_code 13 = .ok (.goto 4, 3) := by decide +kernel
theorem d_PI_hasComponent_16 : decode prog_8_method_8_code 16 = .ok (.iconst 0, 1) := by decide +kernel
theorem d_PI_hasComponent_17 : decode prog_8_method_8_code 17 = .ok (.ireturn, 1) := by decide +kernel
def f_PI_hasComponent (k0 : Nat) (x1 : Int32) (σ : Mem) : Int32 :=
  (if x1 < 0 then (0 : Int32) else (if (σ k0 8) ≤ x1 then (0 : Int32) else (1 : Int32)))
set_option maxHeartbeats 4000000 in
set_option maxRecDepth 100000 in
theorem w_PI_hasComponent {F : Fx} (C : Ctx F prog_8_method_8_code 2 "LineFrames$Picture" (some .boolean) 0 0) {k0 : Nat} (h0k : Is k0 7) (x1 : Int32) (σ : Mem) : J F 2 (cvI σ) (f_PI_hasComponent k0 x1 σ) σ 0 [(0, .ref (fad F k0)), (1, .int x1)] [] := by
  unfold f_PI_hasComponent
  refine j_iload_n C d_PI_hasComponent_0 1 rfl ?_
  refine d_if_lt (a := (0 : Int32)) (b := (if (σ k0 8) ≤ x1 then (0 : Int32) else (1 : Int32))) (jp := 17) (tgt := 16) C d_PI_hasComponent_1 (by decide) (fun c3 k4 => ?_) (fun c3 k4 => ?_) ?_
  · refine j_iconst (v := (0 : Int32)) C d_PI_hasComponent_16 (by decide) ?_
    exact k4
  · refine j_iload_n C d_PI_hasComponent_4 1 rfl ?_
    refine j_aload_n C d_PI_hasComponent_5 0 rfl ?_
    refine j_getI C h0k fl_PI_46 rfl d_PI_hasComponent_6 ?_
    refine d_icmp_ge (a := (0 : Int32)) (b := (1 : Int32)) (jp := 17) (tgt := 16) C d_PI_hasComponent_9 (by decide) (fun c5 k6 => ?_) (fun c5 k6 => ?_) ?_
    · refine j_iconst (v := (0 : Int32)) C d_PI_hasComponent_16 (by decide) ?_
      exact k6
    · refine j_iconst (v := (1 : Int32)) C d_PI_hasComponent_12 (by decide) ?_
      refine j_goto (tgt := 17) C d_PI_hasComponent_13 (by decide) ?_
      exact k6
    exact k4
  exact j_iretz C (fun ρ h => leaf_eq h) (nz01 (ite01 (Or.inl rfl) (ite01 (Or.inl rfl) (Or.inr rfl)))) d_PI_hasComponent_17
theorem c_PI_hasComponent {l : Launch} {D : va_G} {G : GC} {ad : Nat → Nat} {k0 : Nat} (h0k : Is k0 7) (x1 : Int32) (σ : Mem) : Ctr l D G ad ⟨"LineFrames$Picture", "hasComponent", "(I)Z"⟩ prog_8_method_8_code 2 (some .boolean) 0 0 [.ref (ad k0), .int x1] σ (.inl (some (.int (f_PI_hasComponent k0 x1 σ))), σ) := ctr_J (cv := (cvI σ)) (E := f_PI_hasComponent k0 x1 σ) (by decide +kernel) (Nat.le_of_ble_eq_true rfl) rfl (fun F h C => by subst h; exact w_PI_hasComponent C h0k x1 σ)
theorem z_PI_hasComponent (k0 : Nat) (x1 : Int32) (σ : Mem) : f_PI_hasComponent k0 x1 σ = 0 ∨ f_PI_hasComponent k0 x1 σ = 1 := by
  unfold f_PI_hasComponent
  try simp only [lt]
  repeat' split
  all_goals first | exact Or.inl rfl | exact Or.inr rfl
/-! LineFrames$Picture hasTable (I)Z -/
theorem d_PI_hasTable_0 : decode prog_8_method_10_code 0 = .ok (.aload_n 0, 1) := by decide +kernel
theorem d_PI_hasTable_1 : decode prog_8_method_10_code 1 = .ok (.getfield 23, 3) := by decide +kernel
theorem d_PI_hasTable_4 : decode prog_8_method_10_code 4 = .ok (.iload_n 1, 1) := by decide +kernel
theorem d_PI_hasTable_5 : decode prog_8_method_10_code 5 = .ok (.invokevirtual 71, 3) := by decide +kernel
theorem d_PI_hasTable_8 : decode prog_8_method_10_code 8 = .ok (.ifCond .eq 7, 3) := by decide +kernel
theorem d_PI_hasTable_11 : decode prog_8_method_10_code 11 = .ok (.iconst 1, 1) := by decide +kernel
theorem d_PI_hasTable_12 : decode prog_8_method_10_code 12 = .ok (.goto 4, 3) := by decide +kernel
theorem d_PI_hasTable_15 : decode prog_8_method_10_code 15 = .ok (.iconst 0, 1) := by decide +kernel
theorem d_PI_hasTable_16 : decode prog_8_method_10_code 16 = .ok (.ireturn, 1) := by decide +kernel
def f_PI_hasTable (k0 : Nat) (x1 : Int32) (σ : Mem) : Int32 :=
  (if (f_RO_get (wtg k0 2) x1 σ) = 0 then (0 : Int32) else (1 : Int32))
set_option maxHeartbeats 4000000 in
set_option maxRecDepth 100000 in
theorem w_PI_hasTable {F : Fx} (C : Ctx F prog_8_method_10_code 2 "LineFrames$Picture" (some .boolean) 1 21) {k0 : Nat} (h0k : Is k0 7) (x1 : Int32) (σ : Mem) : J F 2 (cvI σ) (f_PI_hasTable k0 x1 σ) σ 0 [(0, .ref (fad F k0)), (1, .int x1)] [] := by
  unfold f_PI_hasTable
  refine j_aload_n C d_PI_hasTable_0 0 rfl ?_
  refine j_getR C h0k fl_PI_23 rfl d_PI_hasTable_1 ?_
  refine j_iload_n C d_PI_hasTable_4 1 rfl ?_
  refine j_callVi C mv_PI_71 [.int x1] [] (tg_7_2 _ h0k) (c_RO_get (tg_7_2 _ h0k) x1 σ) rfl rfl (by decide) (Nat.le_of_ble_eq_true rfl) d_PI_hasTable_5 ?_
  refine d_if_eq (a := (0 : Int32)) (b := (1 : Int32)) (jp := 16) (tgt := 15) C d_PI_hasTable_8 (by decide) (fun c1 k2 => ?_) (fun c1 k2 => ?_) ?_
  · refine j_iconst (v := (0 : Int32)) C d_PI_hasTable_15 (by decide) ?_
    exact k2
  · refine j_iconst (v := (1 : Int32)) C d_PI_hasTable_11 (by decide) ?_
    refine j_goto (tgt := 16) C d_PI_hasTable_12 (by decide) ?_
    exact k2
  exact j_iretz C (fun ρ h => leaf_eq h) (nz01 (ite01 (Or.inl rfl) (Or.inr rfl))) d_PI_hasTable_16
theorem c_PI_hasTable {l : Launch} {D : va_G} {G : GC} {ad : Nat → Nat} {k0 : Nat} (h0k : Is k0 7) (x1 : Int32) (σ : Mem) : Ctr l D G ad ⟨"LineFrames$Picture", "hasTable", "(I)Z"⟩ prog_8_method_10_code 2 (some .boolean) 1 21 [.ref (ad k0), .int x1] σ (.inl (some (.int (f_PI_hasTable k0 x1 σ))), σ) := ctr_J (cv := (cvI σ)) (E := f_PI_hasTable k0 x1 σ) (by decide +kernel) (Nat.le_of_ble_eq_true rfl) rfl (fun F h C => by subst h; exact w_PI_hasTable C h0k x1 σ)
theorem z_PI_hasTable (k0 : Nat) (x1 : Int32) (σ : Mem) : f_PI_hasTable k0 x1 σ = 0 ∨ f_PI_hasTable k0 x1 σ = 1 := by
  unfold f_PI_hasTable
  try simp only [lt]
  repeat' split
  all_goals first | exact Or.inl rfl | exact Or.inr rfl
/-! LineFrames$Picture openTable (I)V -/
theorem d_PI_openTable_0 : decode prog_8_method_11_code 0 = .ok (.aload_n 0, 1) := by decide +kernel
theorem d_PI_openTable_1 : decode prog_8_method_11_code 1 = .ok (.getfield 23, 3) := by decide +kernel
theorem d_PI_openTable_4 : decode prog_8_method_11_code 4 = .ok (.iload_n 1, 1) := by decide +kernel
theorem d_PI_openTable_5 : decode prog_8_method_11_code 5 = .ok (.iconst 1, 1) := by decide +kernel
theorem d_PI_openTable_6 : decode prog_8_method_11_code 6 = .ok (.invokevirtual 59, 3) := by decide +kernel
theorem d_PI_openTable_9 : decode prog_8_method_11_code 9 = .ok (.iconst 0, 1) := by decide +kernel
theorem d_PI_openTable_10 : decode prog_8_method_11_code 10 = .ok (.istore_n 2, 1) := by decide +kernel
theorem d_PI_openTable_11 : decode prog_8_method_11_code 11 = .ok (.iload_n 2, 1) := by decide +kernel
theorem d_PI_openTable_12 : decode prog_8_method_11_code 12 = .ok (.sipush 256, 3) := by decide +kernel
theorem d_PI_openTable_15 : decode prog_8_method_11_code 15 = .ok (.if_icmp .ge 24, 3) := by decide +kernel
theorem d_PI_openTable_18 : decode prog_8_method_11_code 18 = .ok (.aload_n 0, 1) := by decide +kernel
theorem d_PI_openTable_19 : decode prog_8_method_11_code 19 = .ok (.getfield 26, 3) := by decide +kernel
theorem d_PI_openTable_22 : decode prog_8_method_11_code 22 = .ok (.iload_n 1, 1) := by decide +kernel
theorem d_PI_openTable_23 : decode prog_8_method_11_code 23 = .ok (.sipush 256, 3) := by decide +kernel
theorem d_PI_openTable_26 : decode prog_8_method_11_code 26 = .ok (.imul, 1) := by decide +kernel
theorem d_PI_openTable_27 : decode prog_8_method_11_code 27 = .ok (.iload_n 2, 1) := by decide +kernel
theorem d_PI_openTable_28 : decode prog_8_method_11_code 28 = .ok (.iadd, 1) := by decide +kernel
theorem d_PI_openTable_29 : decode prog_8_method_11_code 29 = .ok (.iconst 0, 1) := by decide +kernel
theorem d_PI_openTable_30 : decode prog_8_method_11_code 30 = .ok (.invokevirtual 59, 3) := by decide +kernel
theorem d_PI_openTable_33 : decode prog_8_method_11_code 33 = .ok (.iinc 2 1, 3) := by decide +kernel
theorem d_PI_openTable_36 : decode prog_8_method_11_code 36 = .ok (.goto (-25), 3) := by decide +kernel
theorem d_PI_openTable_39 : decode prog_8_method_11_code 39 = .ok (.return_, 1) := by decide +kernel
def L_PI_openTable_11 (r0 : Nat) (b1 : Int32) : Nat → Int32 → Mem →  Option (Int32 × Mem)
  | 0, _, _ => none
  | n + 1, a2, σ =>
  if (256 : Int32) ≤ a2 then
  some (a2, σ)
  else
  lt (f_RO_set (wtg r0 3) ((b1 * (256 : Int32)) + a2) (0 : Int32) σ) fun σ3 =>
  L_PI_openTable_11 r0 b1 n (a2 + (1 : Int32)) σ3
def f_PI_openTable (k0 : Nat) (x1 : Int32) (σ : Mem) : Option (Mem) :=
  lt (f_RO_set (wtg k0 2) x1 (1 : Int32) σ) fun σ1 =>
  (L_PI_openTable_11 k0 x1 9999 (0 : Int32) σ1).bind fun q4 =>
  some (q4.2)
set_option maxHeartbeats 4000000 in
set_option maxRecDepth 100000 in
theorem wL_PI_openTable_11 {F : Fx} (C : Ctx F prog_8_method_11_code 3 "LineFrames$Picture" none 1 22) {cv : Option (Int32 × Mem) → Option Rs} (h0 : cv none = none) (r0 : Nat) (hr0 : Is r0 7) (b1 : Int32) (hex : ∀ q : Int32 × Mem, J F 3 cv (some q) q.2 39 [(0, .ref (fad F r0)), (1, .int b1), (2, .int q.1)] []) : ∀ (n : Nat) (a2 : Int32) (σ : Mem), J F 3 cv (L_PI_openTable_11 r0 b1 n a2 σ) σ 11 [(0, .ref (fad F r0)), (1, .int b1), (2, .int a2)] [] := by
  intro n
  induction n with
  | zero => intro a2 σ hE; rw [L_PI_openTable_11, h0] at hE; cases hE
  | succ n ih =>
    intro a2 σ
    rw [L_PI_openTable_11]
    refine j_iload_n C d_PI_openTable_11 2 rfl ?_
    refine j_sipush (v := (256 : Int32)) C d_PI_openTable_12 (by decide) ?_
    refine j_icmp_ge (tgt := 39) C d_PI_openTable_15 (by decide) (fun c2 => ?_) (fun c2 => ?_)
    · exact hex (a2, σ)
    · refine j_aload_n C d_PI_openTable_18 0 rfl ?_
      refine j_getR C hr0 fl_PI_26 rfl d_PI_openTable_19 ?_
      refine j_iload_n C d_PI_openTable_22 1 rfl ?_
      refine j_sipush (v := (256 : Int32)) C d_PI_openTable_23 (by decide) ?_
      refine j_imul C d_PI_openTable_26 ?_
      refine j_iload_n C d_PI_openTable_27 2 rfl ?_
      refine j_iadd C d_PI_openTable_28 ?_
      refine j_iconst (v := (0 : Int32)) C d_PI_openTable_29 (by decide) ?_
      refine j_callVv C mv_PI_59 [.int ((b1 * (256 : Int32)) + a2), .int (0 : Int32)] [] (tg_7_3 _ hr0) (c_RO_set (tg_7_3 _ hr0) ((b1 * (256 : Int32)) + a2) (0 : Int32) σ) rfl rfl (by decide) (Nat.le_of_ble_eq_true rfl) d_PI_openTable_30 ?_
      refine j_genM (fun σ3 => ?_)
      refine j_iinc (v := (a2 + (1 : Int32))) (lv9 := [(0, .ref (fad F r0)), (1, .int b1), (2, .int (a2 + (1 : Int32)))]) C d_PI_openTable_33 2 rfl rfl rfl rfl (by decide) ?_
      refine j_goto (tgt := 11) C d_PI_openTable_36 (by decide) ?_
      exact ih (a2 + (1 : Int32)) σ3
set_option maxHeartbeats 4000000 in
set_option maxRecDepth 100000 in
theorem w_PI_openTable {F : Fx} (C : Ctx F prog_8_method_11_code 3 "LineFrames$Picture" none 1 22) {k0 : Nat} (h0k : Is k0 7) (x1 : Int32) (σ : Mem) : J F 3 (cvO cvM) (f_PI_openTable k0 x1 σ) σ 0 [(0, .ref (fad F k0)), (1, .int x1)] [] := by
  unfold f_PI_openTable
  refine j_aload_n C d_PI_openTable_0 0 rfl ?_
  refine j_getR C h0k fl_PI_23 rfl d_PI_openTable_1 ?_
  refine j_iload_n C d_PI_openTable_4 1 rfl ?_
  refine j_iconst (v := (1 : Int32)) C d_PI_openTable_5 (by decide) ?_
  refine j_callVv C mv_PI_59 [.int x1, .int (1 : Int32)] [] (tg_7_2 _ h0k) (c_RO_set (tg_7_2 _ h0k) x1 (1 : Int32) σ) rfl rfl (by decide) (Nat.le_of_ble_eq_true rfl) d_PI_openTable_6 ?_
  refine j_genM (fun σ1 => ?_)
  refine j_iconst (v := (0 : Int32)) C d_PI_openTable_9 (by decide) ?_
  refine j_istore_n (lv9 := [(0, .ref (fad F k0)), (1, .int x1), (2, .int (0 : Int32))]) C d_PI_openTable_10 rfl rfl (by decide) ?_
  refine j_loop (wL_PI_openTable_11 C rfl k0 h0k x1 (fun q4 => j_some ?_) 9999 (0 : Int32) σ1)
  exact j_vret C (fun ρ h => leaf_eq h) d_PI_openTable_39
theorem c_PI_openTable {l : Launch} {D : va_G} {G : GC} {ad : Nat → Nat} {k0 : Nat} (h0k : Is k0 7) (x1 : Int32) (σ : Mem) {q : Mem} (hq : f_PI_openTable k0 x1 σ = some q) : Ctr l D G ad ⟨"LineFrames$Picture", "openTable", "(I)V"⟩ prog_8_method_11_code 3 none 1 22 [.ref (ad k0), .int x1] σ (.inl none, q) := ctr_J (cv := (cvO cvM)) (E := f_PI_openTable k0 x1 σ) (by decide +kernel) (Nat.le_of_ble_eq_true rfl) (by rw [hq]; rfl) (fun F h C => by subst h; exact w_PI_openTable C h0k x1 σ)
/-! LineFrames$Picture setNumber (III)V -/
theorem d_PI_setNumber_0 : decode prog_8_method_13_code 0 = .ok (.aload_n 0, 1) := by decide +kernel
theorem d_PI_setNumber_1 : decode prog_8_method_13_code 1 = .ok (.getfield 26, 3) := by decide +kernel
theorem d_PI_setNumber_4 : decode prog_8_method_13_code 4 = .ok (.iload_n 1, 1) := by decide +kernel
theorem d_PI_setNumber_5 : decode prog_8_method_13_code 5 = .ok (.sipush 256, 3) := by decide +kernel
theorem d_PI_setNumber_8 : decode prog_8_method_13_code 8 = .ok (.imul, 1) := by decide +kernel
theorem d_PI_setNumber_9 : decode prog_8_method_13_code 9 = .ok (.iload_n 2, 1) := by decide +kernel
theorem d_PI_setNumber_10 : decode prog_8_method_13_code 10 = .ok (.iadd, 1) := by decide +kernel
theorem d_PI_setNumber_11 : decode prog_8_method_13_code 11 = .ok (.iload_n 3, 1) := by decide +kernel
theorem d_PI_setNumber_12 : decode prog_8_method_13_code 12 = .ok (.invokevirtual 59, 3) := by decide +kernel
theorem d_PI_setNumber_15 : decode prog_8_method_13_code 15 = .ok (.return_, 1) := by decide +kernel
def f_PI_setNumber (k0 : Nat) (x1 : Int32) (x2 : Int32) (x3 : Int32) (σ : Mem) : Mem :=
  lt (f_RO_set (wtg k0 3) ((x1 * (256 : Int32)) + x2) x3 σ) fun σ1 =>
  σ1
set_option maxHeartbeats 4000000 in
set_option maxRecDepth 100000 in
theorem w_PI_setNumber {F : Fx} (C : Ctx F prog_8_method_13_code 4 "LineFrames$Picture" none 1 22) {k0 : Nat} (h0k : Is k0 7) (x1 : Int32) (x2 : Int32) (x3 : Int32) (σ : Mem) : J F 4 cvM (f_PI_setNumber k0 x1 x2 x3 σ) σ 0 [(0, .ref (fad F k0)), (1, .int x1), (2, .int x2), (3, .int x3)] [] := by
  unfold f_PI_setNumber
  refine j_aload_n C d_PI_setNumber_0 0 rfl ?_
  refine j_getR C h0k fl_PI_26 rfl d_PI_setNumber_1 ?_
  refine j_iload_n C d_PI_setNumber_4 1 rfl ?_
  refine j_sipush (v := (256 : Int32)) C d_PI_setNumber_5 (by decide) ?_
  refine j_imul C d_PI_setNumber_8 ?_
  refine j_iload_n C d_PI_setNumber_9 2 rfl ?_
  refine j_iadd C d_PI_setNumber_10 ?_
  refine j_iload_n C d_PI_setNumber_11 3 rfl ?_
  refine j_callVv C mv_PI_59 [.int ((x1 * (256 : Int32)) + x2), .int x3] [] (tg_7_3 _ h0k) (c_RO_set (tg_7_3 _ h0k) ((x1 * (256 : Int32)) + x2) x3 σ) rfl rfl (by decide) (Nat.le_of_ble_eq_true rfl) d_PI_setNumber_12 ?_
  refine j_genM (fun σ1 => ?_)
  exact j_vret C (fun ρ h => leaf_eq h) d_PI_setNumber_15
theorem c_PI_setNumber {l : Launch} {D : va_G} {G : GC} {ad : Nat → Nat} {k0 : Nat} (h0k : Is k0 7) (x1 : Int32) (x2 : Int32) (x3 : Int32) (σ : Mem) : Ctr l D G ad ⟨"LineFrames$Picture", "setNumber", "(III)V"⟩ prog_8_method_13_code 4 none 1 22 [.ref (ad k0), .int x1, .int x2, .int x3] σ (.inl none, (f_PI_setNumber k0 x1 x2 x3 σ)) := ctr_J (cv := cvM) (E := f_PI_setNumber k0 x1 x2 x3 σ) (by decide +kernel) (Nat.le_of_ble_eq_true rfl) rfl (fun F h C => by subst h; exact w_PI_setNumber C h0k x1 x2 x3 σ)
/-! LineFrames$StreamReader takeTable (II)I -/
theorem d_SR_takeTable_0 : decode prog_10_method_17_code 0 = .ok (.aload_n 0, 1) := by decide +kernel
theorem d_SR_takeTable_1 : decode prog_10_method_17_code 1 = .ok (.getfield 12, 3) := by decide +kernel
theorem d_SR_takeTable_4 : decode prog_10_method_17_code 4 = .ok (.invokevirtual 204, 3) := by decide +kernel
theorem d_SR_takeTable_7 : decode prog_10_method_17_code 7 = .ok (.iconst 1, 1) := by decide +kernel
theorem d_SR_takeTable_8 : decode prog_10_method_17_code 8 = .ok (.iadd, 1) := by decide +kernel
theorem d_SR_takeTable_9 : decode prog_10_method_17_code 9 = .ok (.istore_n 3, 1) := by decide +kernel
theorem d_SR_takeTable_10 : decode prog_10_method_17_code 10 = .ok (.iload_n 2, 1) := by decide +kernel
theorem d_SR_takeTable_11 : decode prog_10_method_17_code 11 = .ok (.iconst 5, 1) := by decide +kernel
theorem d_SR_takeTable_12 : decode prog_10_method_17_code 12 = .ok (.iconst 2, 1) := by decide +kernel
theorem d_SR_takeTable_13 : decode prog_10_method_17_code 13 = .ok (.iload_n 3, 1) := by decide +kernel
theorem d_SR_takeTable_14 : decode prog_10_method_17_code 14 = .ok (.imul, 1) := by decide +kernel
theorem d_SR_takeTable_15 : decode prog_10_method_17_code 15 = .ok (.iadd, 1) := by decide +kernel
theorem d_SR_takeTable_16 : decode prog_10_method_17_code 16 = .ok (.if_icmp .eq 5, 3) := by decide +kernel
theorem d_SR_takeTable_19 : decode prog_10_method_17_code 19 = .ok (.iconst 3, 1) := by decide +kernel
theorem d_SR_takeTable_20 : decode prog_10_method_17_code 20 = .ok (.ireturn, 1) := by decide +kernel
theorem d_SR_takeTable_21 : decode prog_10_method_17_code 21 = .ok (.aload_n 0, 1) := by decide +kernel
theorem d_SR_takeTable_22 : decode prog_10_method_17_code 22 = .ok (.getfield 72, 3) := by decide +kernel
theorem d_SR_takeTable_25 : decode prog_10_method_17_code 25 = .ok (.iload_n 1, 1) := by decide +kernel
theorem d_SR_takeTable_26 : decode prog_10_method_17_code 26 = .ok (.iconst 5, 1) := by decide +kernel
theorem d_SR_takeTable_27 : decode prog_10_method_17_code 27 = .ok (.iadd, 1) := by decide +kernel
theorem d_SR_takeTable_28 : decode prog_10_method_17_code 28 = .ok (.invokevirtual 123, 3) := by decide +kernel
theorem d_SR_takeTable_31 : decode prog_10_method_17_code 31 = .ok (.iconst 1, 1) := by decide +kernel
theorem d_SR_takeTable_32 : decode prog_10_method_17_code 32 = .ok (.isub, 1) := by decide +kernel
theorem d_SR_takeTable_33 : decode prog_10_method_17_code 33 = .ok (.istore 4, 2) := by decide +kernel
theorem d_SR_takeTable_35 : decode prog_10_method_17_code 35 = .ok (.aload_n 0, 1) := by decide +kernel
theorem d_SR_takeTable_36 : decode prog_10_method_17_code 36 = .ok (.getfield 12, 3) := by decide +kernel
theorem d_SR_takeTable_39 : decode prog_10_method_17_code 39 = .ok (.iload 4, 2) := by decide +kernel
theorem d_SR_takeTable_41 : decode prog_10_method_17_code 41 = .ok (.invokevirtual 207, 3) := by decide +kernel
theorem d_SR_takeTable_44 : decode prog_10_method_17_code 44 = .ok (.ifCond .ne 6, 3) := by decide +kernel
theorem d_SR_takeTable_47 : decode prog_10_method_17_code 47 = .ok (.bipush 6, 2) := by decide +kernel
theorem d_SR_takeTable_49 : decode prog_10_method_17_code 49 = .ok (.ireturn, 1) := by decide +kernel
theorem d_SR_takeTable_50 : decode prog_10_method_17_code 50 = .ok (.aload_n 0, 1) := by decide +kernel
theorem d_SR_takeTable_51 : decode prog_10_method_17_code 51 = .ok (.getfield 12, 3) := by decide +kernel
theorem d_SR_takeTable_54 : decode prog_10_method_17_code 54 = .ok (.iload 4, 2) := by decide +kernel
theorem d_SR_takeTable_56 : decode prog_10_method_17_code 56 = .ok (.invokevirtual 210, 3) := by decide +kernel
theorem d_SR_takeTable_59 : decode prog_10_method_17_code 59 = .ok (.ifCond .eq 5, 3) := by decide +kernel
theorem d_SR_takeTable_62 : decode prog_10_method_17_code 62 = .ok (.iconst 5, 1) := by decide +kernel
theorem d_SR_takeTable_63 : decode prog_10_method_17_code 63 = .ok (.ireturn, 1) := by decide +kernel
theorem d_SR_takeTable_64 : decode prog_10_method_17_code 64 = .ok (.aload_n 0, 1) := by decide +kernel
theorem d_SR_takeTable_65 : decode prog_10_method_17_code 65 = .ok (.getfield 72, 3) := by decide +kernel
theorem d_SR_takeTable_68 : decode prog_10_method_17_code 68 = .ok (.iload_n 1, 1) := by decide +kernel
theorem d_SR_takeTable_69 : decode prog_10_method_17_code 69 = .ok (.bipush 6, 2) := by decide +kernel
theorem d_SR_takeTable_71 : decode prog_10_method_17_code 71 = .ok (.iadd, 1) := by decide +kernel
theorem d_SR_takeTable_72 : decode prog_10_method_17_code 72 = .ok (.invokevirtual 123, 3) := by decide +kernel
theorem d_SR_takeTable_75 : decode prog_10_method_17_code 75 = .ok (.iconst 2, 1) := by decide +kernel
theorem d_SR_takeTable_76 : decode prog_10_method_17_code 76 = .ok (.if_icmp .eq 5, 3) := by decide +kernel
theorem d_SR_takeTable_79 : decode prog_10_method_17_code 79 = .ok (.iconst 4, 1) := by decide +kernel
theorem d_SR_takeTable_80 : decode prog_10_method_17_code 80 = .ok (.ireturn, 1) := by decide +kernel
theorem d_SR_takeTable_81 : decode prog_10_method_17_code 81 = .ok (.aload_n 0, 1) := by decide +kernel
theorem d_SR_takeTable_82 : decode prog_10_method_17_code 82 = .ok (.getfield 12, 3) := by decide +kernel
theorem d_SR_takeTable_85 : decode prog_10_method_17_code 85 = .ok (.iload 4, 2) := by decide +kernel
theorem d_SR_takeTable_87 : decode prog_10_method_17_code 87 = .ok (.invokevirtual 213, 3) := by decide +kernel
theorem d_SR_takeTable_90 : decode prog_10_method_17_code 90 = .ok (.iconst 0, 1) := by decide +kernel
theorem d_SR_takeTable_91 : decode prog_10_method_17_code 91 = .ok (.istore 5, 2) := by decide +kernel
theorem d_SR_takeTable_93 : decode prog_10_method_17_code 93 = .ok (.iload 5, 2) := by decide +kernel
theorem d_SR_takeTable_95 : decode prog_10_method_17_code 95 = .ok (.iload_n 3, 1) := by decide +kernel
theorem d_SR_takeTable_96 : decode prog_10_method_17_code 96 = .ok (.if_icmp .ge 36, 3) := by decide +kernel
theorem d_SR_takeTable_99 : decode prog_10_method_17_code 99 = .ok (.aload_n 0, 1) := by decide +kernel
theorem d_SR_takeTable_100 : decode prog_10_method_17_code 100 = .ok (.getfield 12, 3) := by decide +kernel
theorem d_SR_takeTable_103 : decode prog_10_method_17_code 103 = .ok (.iload 4, 2) := by decide +kernel
theorem d_SR_takeTable_105 : decode prog_10_method_17_code 105 = .ok (.iload 5, 2) := by decide +kernel
theorem d_SR_takeTable_107 : decode prog_10_method_17_code 107 = .ok (.aload_n 0, 1) := by decide +kernel
theorem d_SR_takeTable_108 : decode prog_10_method_17_code 108 = .ok (.getfield 72, 3) := by decide +kernel
theorem d_SR_takeTable_111 : decode prog_10_method_17_code 111 = .ok (.iload_n 1, 1) := by decide +kernel
theorem d_SR_takeTable_112 : decode prog_10_method_17_code 112 = .ok (.bipush 7, 2) := by decide +kernel
theorem d_SR_takeTable_114 : decode prog_10_method_17_code 114 = .ok (.iadd, 1) := by decide +kernel
theorem d_SR_takeTable_115 : decode prog_10_method_17_code 115 = .ok (.iconst 2, 1) := by decide +kernel
theorem d_SR_takeTable_116 : decode prog_10_method_17_code 116 = .ok (.iload 5, 2) := by decide +kernel
theorem d_SR_takeTable_118 : decode prog_10_method_17_code 118 = .ok (.imul, 1) := by decide +kernel
theorem d_SR_takeTable_119 : decode prog_10_method_17_code 119 = .ok (.iadd, 1) := by decide +kernel
theorem d_SR_takeTable_120 : decode prog_10_method_17_code 120 = .ok (.invokevirtual 146, 3) := by decide +kernel
theorem d_SR_takeTable_123 : decode prog_10_method_17_code 123 = .ok (.invokevirtual 216, 3) := by decide +kernel
theorem d_SR_takeTable_126 : decode prog_10_method_17_code 126 = .ok (.iinc 5 1, 3) := by decide +kernel
theorem d_SR_takeTable_129 : decode prog_10_method_17_code 129 = .ok (.goto (-36), 3) := by decide +kernel
theorem d_SR_takeTable_132 : decode prog_10_method_17_code 132 = .ok (.iconst 0, 1) := by decide +kernel
theorem d_SR_takeTable_133 : decode prog_10_method_17_code 133 = .ok (.ireturn, 1) := by decide +kernel
def L_SR_takeTable_93 (r0 : Nat) (b1 : Int32) (b2 : Int32) (b3 : Int32) (b4 : Int32) : Nat → Int32 → Mem →  Option (Int32 × Mem)
  | 0, _, _ => none
  | n + 1, a5, σ =>
  if b3 ≤ a5 then
  some (a5, σ)
  else
  lt (f_PI_setNumber (wtg r0 1) b4 a5 (f_BY_wide (wtg r0 0) ((b1 + (7 : Int32)) + ((2 : Int32) * a5)) σ) σ) fun σ9 =>
  L_SR_takeTable_93 r0 b1 b2 b3 b4 n (a5 + (1 : Int32)) σ9
def f_SR_takeTable (k0 : Nat) (x1 : Int32) (x2 : Int32) (σ : Mem) : Option (Int32 × Mem) :=
  if x2 = ((5 : Int32) + ((2 : Int32) * ((f_PI_top (wtg k0 1) σ) + (1 : Int32)))) then
  lt ((f_BY_get (wtg k0 0) (x1 + (5 : Int32)) σ) - (1 : Int32)) fun v2 =>
  if (f_PI_hasComponent (wtg k0 1) v2 σ) = 0 then
  some ((6 : Int32), σ)
  else
  if (f_PI_hasTable (wtg k0 1) v2 σ) = 0 then
  if (f_BY_get (wtg k0 0) (x1 + (6 : Int32)) σ) = (2 : Int32) then
  (f_PI_openTable (wtg k0 1) v2 σ).bind fun σ7 =>
  (L_SR_takeTable_93 k0 x1 x2 ((f_PI_top (wtg k0 1) σ) + (1 : Int32)) v2 9999 (0 : Int32) σ7).bind fun q10 =>
  some ((0 : Int32), q10.2)
  else
  some ((4 : Int32), σ)
  else
  some ((5 : Int32), σ)
  else
  some ((3 : Int32), σ)
set_option maxHeartbeats 4000000 in
set_option maxRecDepth 100000 in
theorem wL_SR_takeTable_93 {F : Fx} (C : Ctx F prog_10_method_17_code 6 "LineFrames$StreamReader" (some .int) 2 45) {cv : Option (Int32 × Mem) → Option Rs} (h0 : cv none = none) (r0 : Nat) (hr0 : Is r0 9) (b1 : Int32) (b2 : Int32) (b3 : Int32) (b4 : Int32) (hex : ∀ q : Int32 × Mem, J F 6 cv (some q) q.2 132 [(0, .ref (fad F r0)), (1, .int b1), (2, .int b2), (3, .int b3), (4, .int b4), (5, .int q.1)] []) : ∀ (n : Nat) (a5 : Int32) (σ : Mem), J F 6 cv (L_SR_takeTable_93 r0 b1 b2 b3 b4 n a5 σ) σ 93 [(0, .ref (fad F r0)), (1, .int b1), (2, .int b2), (3, .int b3), (4, .int b4), (5, .int a5)] [] := by
  intro n
  induction n with
  | zero => intro a5 σ hE; rw [L_SR_takeTable_93, h0] at hE; cases hE
  | succ n ih =>
    intro a5 σ
    rw [L_SR_takeTable_93]
    refine j_iload C d_SR_takeTable_93 5 rfl ?_
    refine j_iload_n C d_SR_takeTable_95 3 rfl ?_
    refine j_icmp_ge (tgt := 132) C d_SR_takeTable_96 (by decide) (fun c8 => ?_) (fun c8 => ?_)
    · exact hex (a5, σ)
    · refine j_aload_n C d_SR_takeTable_99 0 rfl ?_
      refine j_getR C hr0 fl_SR_12 rfl d_SR_takeTable_100 ?_
      refine j_iload C d_SR_takeTable_103 4 rfl ?_
      refine j_iload C d_SR_takeTable_105 5 rfl ?_
      refine j_aload_n C d_SR_takeTable_107 0 rfl ?_
      refine j_getR C hr0 fl_SR_72 rfl d_SR_takeTable_108 ?_
      refine j_iload_n C d_SR_takeTable_111 1 rfl ?_
      refine j_bipush (v := (7 : Int32)) C d_SR_takeTable_112 (by decide) ?_
      refine j_iadd C d_SR_takeTable_114 ?_
      refine j_iconst (v := (2 : Int32)) C d_SR_takeTable_115 (by decide) ?_
      refine j_iload C d_SR_takeTable_116 5 rfl ?_
      refine j_imul C d_SR_takeTable_118 ?_
      refine j_iadd C d_SR_takeTable_119 ?_
      refine j_callVi C mv_SR_146 [.int ((b1 + (7 : Int32)) + ((2 : Int32) * a5))] [.int a5, .int b4, .ref (fad F (wtg r0 1))] (tg_9_0 _ hr0) (c_BY_wide (tg_9_0 _ hr0) ((b1 + (7 : Int32)) + ((2 : Int32) * a5)) σ) rfl rfl (by decide) (Nat.le_of_ble_eq_true rfl) d_SR_takeTable_120 ?_
      refine j_callVv C mv_SR_216 [.int b4, .int a5, .int (f_BY_wide (wtg r0 0) ((b1 + (7 : Int32)) + ((2 : Int32) * a5)) σ)] [] (tg_9_1 _ hr0) (c_PI_setNumber (tg_9_1 _ hr0) b4 a5 (f_BY_wide (wtg r0 0) ((b1 + (7 : Int32)) + ((2 : Int32) * a5)) σ) σ) rfl rfl (by decide) (Nat.le_of_ble_eq_true rfl) d_SR_takeTable_123 ?_
      refine j_genM (fun σ9 => ?_)
      refine j_iinc (v := (a5 + (1 : Int32))) (lv9 := [(0, .ref (fad F r0)), (1, .int b1), (2, .int b2), (3, .int b3), (4, .int b4), (5, .int (a5 + (1 : Int32)))]) C d_SR_takeTable_126 5 rfl rfl rfl rfl (by decide) ?_
      refine j_goto (tgt := 93) C d_SR_takeTable_129 (by decide) ?_
      exact ih (a5 + (1 : Int32)) σ9
set_option maxHeartbeats 4000000 in
set_option maxRecDepth 100000 in
theorem w_SR_takeTable {F : Fx} (C : Ctx F prog_10_method_17_code 6 "LineFrames$StreamReader" (some .int) 2 45) {k0 : Nat} (h0k : Is k0 9) (x1 : Int32) (x2 : Int32) (σ : Mem) : J F 6 (cvO cvIM) (f_SR_takeTable k0 x1 x2 σ) σ 0 [(0, .ref (fad F k0)), (1, .int x1), (2, .int x2)] [] := by
  unfold f_SR_takeTable
  refine j_aload_n C d_SR_takeTable_0 0 rfl ?_
  refine j_getR C h0k fl_SR_12 rfl d_SR_takeTable_1 ?_
  refine j_callVi C mv_SR_204 [] [] (tg_9_1 _ h0k) (c_PI_top (tg_9_1 _ h0k) σ) rfl rfl (by decide) (Nat.le_of_ble_eq_true rfl) d_SR_takeTable_4 ?_
  refine j_iconst (v := (1 : Int32)) C d_SR_takeTable_7 (by decide) ?_
  refine j_iadd C d_SR_takeTable_8 ?_
  refine j_istore_n (lv9 := [(0, .ref (fad F k0)), (1, .int x1), (2, .int x2), (3, .int ((f_PI_top (wtg k0 1) σ) + (1 : Int32)))]) C d_SR_takeTable_9 rfl rfl (by decide) ?_
  refine j_iload_n C d_SR_takeTable_10 2 rfl ?_
  refine j_iconst (v := (5 : Int32)) C d_SR_takeTable_11 (by decide) ?_
  refine j_iconst (v := (2 : Int32)) C d_SR_takeTable_12 (by decide) ?_
  refine j_iload_n C d_SR_takeTable_13 3 rfl ?_
  refine j_imul C d_SR_takeTable_14 ?_
  refine j_iadd C d_SR_takeTable_15 ?_
  refine j_icmp_eq (tgt := 21) C d_SR_takeTable_16 (by decide) (fun c1 => ?_) (fun c1 => ?_)
  · refine j_aload_n C d_SR_takeTable_21 0 rfl ?_
    refine j_getR C h0k fl_SR_72 rfl d_SR_takeTable_22 ?_
    refine j_iload_n C d_SR_takeTable_25 1 rfl ?_
    refine j_iconst (v := (5 : Int32)) C d_SR_takeTable_26 (by decide) ?_
    refine j_iadd C d_SR_takeTable_27 ?_
    refine j_callVi C mv_SR_123 [.int (x1 + (5 : Int32))] [] (tg_9_0 _ h0k) (c_BY_get (tg_9_0 _ h0k) (x1 + (5 : Int32)) σ) rfl rfl (by decide) (Nat.le_of_ble_eq_true rfl) d_SR_takeTable_28 ?_
    refine j_iconst (v := (1 : Int32)) C d_SR_takeTable_31 (by decide) ?_
    refine j_isub C d_SR_takeTable_32 ?_
    refine j_nm (fun v2 v2_e => ?_)
    refine j_istore (lv9 := [(0, .ref (fad F k0)), (1, .int x1), (2, .int x2), (3, .int ((f_PI_top (wtg k0 1) σ) + (1 : Int32))), (4, .int v2)]) C d_SR_takeTable_33 rfl rfl (by decide) ?_
    refine j_aload_n C d_SR_takeTable_35 0 rfl ?_
    refine j_getR C h0k fl_SR_12 rfl d_SR_takeTable_36 ?_
    refine j_iload C d_SR_takeTable_39 4 rfl ?_
    refine j_callVi C mv_SR_207 [.int v2] [] (tg_9_1 _ h0k) (c_PI_hasComponent (tg_9_1 _ h0k) v2 σ) rfl rfl (by decide) (Nat.le_of_ble_eq_true rfl) d_SR_takeTable_41 ?_
    refine j_if_ne (tgt := 50) C d_SR_takeTable_44 (by decide) (fun c3 => ?_) (fun c3 => ?_)
    · refine j_aload_n C d_SR_takeTable_50 0 rfl ?_
      refine j_getR C h0k fl_SR_12 rfl d_SR_takeTable_51 ?_
      refine j_iload C d_SR_takeTable_54 4 rfl ?_
      refine j_callVi C mv_SR_210 [.int v2] [] (tg_9_1 _ h0k) (c_PI_hasTable (tg_9_1 _ h0k) v2 σ) rfl rfl (by decide) (Nat.le_of_ble_eq_true rfl) d_SR_takeTable_56 ?_
      refine j_if_eq (tgt := 64) C d_SR_takeTable_59 (by decide) (fun c4 => ?_) (fun c4 => ?_)
      · refine j_aload_n C d_SR_takeTable_64 0 rfl ?_
        refine j_getR C h0k fl_SR_72 rfl d_SR_takeTable_65 ?_
        refine j_iload_n C d_SR_takeTable_68 1 rfl ?_
        refine j_bipush (v := (6 : Int32)) C d_SR_takeTable_69 (by decide) ?_
        refine j_iadd C d_SR_takeTable_71 ?_
        refine j_callVi C mv_SR_123 [.int (x1 + (6 : Int32))] [] (tg_9_0 _ h0k) (c_BY_get (tg_9_0 _ h0k) (x1 + (6 : Int32)) σ) rfl rfl (by decide) (Nat.le_of_ble_eq_true rfl) d_SR_takeTable_72 ?_
        refine j_iconst (v := (2 : Int32)) C d_SR_takeTable_75 (by decide) ?_
        refine j_icmp_eq (tgt := 81) C d_SR_takeTable_76 (by decide) (fun c5 => ?_) (fun c5 => ?_)
        · refine j_aload_n C d_SR_takeTable_81 0 rfl ?_
          refine j_getR C h0k fl_SR_12 rfl d_SR_takeTable_82 ?_
          refine j_iload C d_SR_takeTable_85 4 rfl ?_
          refine j_bind rfl (fun σ7 e6 => ?_)
          refine j_callVv C mv_SR_213 [.int v2] [] (tg_9_1 _ h0k) (c_PI_openTable (tg_9_1 _ h0k) v2 σ e6) rfl rfl (by decide) (Nat.le_of_ble_eq_true rfl) d_SR_takeTable_87 ?_
          refine j_iconst (v := (0 : Int32)) C d_SR_takeTable_90 (by decide) ?_
          refine j_istore (lv9 := [(0, .ref (fad F k0)), (1, .int x1), (2, .int x2), (3, .int ((f_PI_top (wtg k0 1) σ) + (1 : Int32))), (4, .int v2), (5, .int (0 : Int32))]) C d_SR_takeTable_91 rfl rfl (by decide) ?_
          refine j_loop (wL_SR_takeTable_93 C rfl k0 h0k x1 x2 ((f_PI_top (wtg k0 1) σ) + (1 : Int32)) v2 (fun q10 => j_some ?_) 9999 (0 : Int32) σ7)
          refine j_iconst (v := (0 : Int32)) C d_SR_takeTable_132 (by decide) ?_
          exact j_ireti C (fun ρ h => leaf_eq h) d_SR_takeTable_133
        · refine j_iconst (v := (4 : Int32)) C d_SR_takeTable_79 (by decide) ?_
          exact j_ireti C (fun ρ h => leaf_eq h) d_SR_takeTable_80
      · refine j_iconst (v := (5 : Int32)) C d_SR_takeTable_62 (by decide) ?_
        exact j_ireti C (fun ρ h => leaf_eq h) d_SR_takeTable_63
    · refine j_bipush (v := (6 : Int32)) C d_SR_takeTable_47 (by decide) ?_
      exact j_ireti C (fun ρ h => leaf_eq h) d_SR_takeTable_49
  · refine j_iconst (v := (3 : Int32)) C d_SR_takeTable_19 (by decide) ?_
    exact j_ireti C (fun ρ h => leaf_eq h) d_SR_takeTable_20
theorem c_SR_takeTable {l : Launch} {D : va_G} {G : GC} {ad : Nat → Nat} {k0 : Nat} (h0k : Is k0 9) (x1 : Int32) (x2 : Int32) (σ : Mem) {q : Int32 × Mem} (hq : f_SR_takeTable k0 x1 x2 σ = some q) : Ctr l D G ad ⟨"LineFrames$StreamReader", "takeTable", "(II)I"⟩ prog_10_method_17_code 6 (some .int) 2 45 [.ref (ad k0), .int x1, .int x2] σ (.inl (some (.int q.1)), q.2) := ctr_J (cv := (cvO cvIM)) (E := f_SR_takeTable k0 x1 x2 σ) (by decide +kernel) (Nat.le_of_ble_eq_true rfl) (by rw [hq]; rfl) (fun F h C => by subst h; exact w_SR_takeTable C h0k x1 x2 σ)
/-! LineFrames$StreamReader takePresetsOrTable (II)I -/
theorem d_SR_takePresetsOrTable_0 : decode prog_10_method_15_code 0 = .ok (.iload_n 2, 1) := by decide +kernel
theorem d_SR_takePresetsOrTable_1 : decode prog_10_method_15_code 1 = .ok (.iconst 3, 1) := by decide +kernel
theorem d_SR_takePresetsOrTable_2 : decode prog_10_method_15_code 2 = .ok (.if_icmp .ge 5, 3) := by decide +kernel
theorem d_SR_takePresetsOrTable_5 : decode prog_10_method_15_code 5 = .ok (.iconst 3, 1) := by decide +kernel
theorem d_SR_takePresetsOrTable_6 : decode prog_10_method_15_code 6 = .ok (.ireturn, 1) := by decide +kernel
theorem d_SR_takePresetsOrTable_7 : decode prog_10_method_15_code 7 = .ok (.aload_n 0, 1) := by decide +kernel
theorem d_SR_takePresetsOrTable_8 : decode prog_10_method_15_code 8 = .ok (.getfield 72, 3) := by decide +kernel
theorem d_SR_takePresetsOrTable_11 : decode prog_10_method_15_code 11 = .ok (.iload_n 1, 1) := by decide +kernel
theorem d_SR_takePresetsOrTable_12 : decode prog_10_method_15_code 12 = .ok (.iconst 4, 1) := by decide +kernel
theorem d_SR_takePresetsOrTable_13 : decode prog_10_method_15_code 13 = .ok (.iadd, 1) := by decide +kernel
theorem d_SR_takePresetsOrTable_14 : decode prog_10_method_15_code 14 = .ok (.invokevirtual 123, 3) := by decide +kernel
theorem d_SR_takePresetsOrTable_17 : decode prog_10_method_15_code 17 = .ok (.lookupswitch 41 #[(1, 27), (2, 34)], 27) := by decide +kernel
theorem d_SR_takePresetsOrTable_44 : decode prog_10_method_15_code 44 = .ok (.aload_n 0, 1) := by decide +kernel
theorem d_SR_takePresetsOrTable_45 : decode prog_10_method_15_code 45 = .ok (.iload_n 1, 1) := by decide +kernel
theorem d_SR_takePresetsOrTable_46 : decode prog_10_method_15_code 46 = .ok (.iload_n 2, 1) := by decide +kernel
theorem d_SR_takePresetsOrTable_47 : decode prog_10_method_15_code 47 = .ok (.invokevirtual 188, 3) := by decide +kernel
theorem d_SR_takePresetsOrTable_50 : decode prog_10_method_15_code 50 = .ok (.ireturn, 1) := by decide +kernel
theorem d_SR_takePresetsOrTable_51 : decode prog_10_method_15_code 51 = .ok (.aload_n 0, 1) := by decide +kernel
theorem d_SR_takePresetsOrTable_52 : decode prog_10_method_15_code 52 = .ok (.iload_n 1, 1) := by decide +kernel
theorem d_SR_takePresetsOrTable_53 : decode prog_10_method_15_code 53 = .ok (.iload_n 2, 1) := by decide +kernel
theorem d_SR_takePresetsOrTable_54 : decode prog_10_method_15_code 54 = .ok (.invokevirtual 191, 3) := by decide +kernel
theorem d_SR_takePresetsOrTable_57 : decode prog_10_method_15_code 57 = .ok (.ireturn, 1) := by decide +kernel
theorem d_SR_takePresetsOrTable_58 : decode prog_10_method_15_code 58 = .ok (.iconst 4, 1) := by decide +kernel
theorem d_SR_takePresetsOrTable_59 : decode prog_10_method_15_code 59 = .ok (.ireturn, 1) := by decide +kernel
def f_SR_takePresetsOrTable (k0 : Nat) (x1 : Int32) (x2 : Int32) (σ : Mem) : Option (Int32 × Mem) :=
  if (3 : Int32) ≤ x2 then
  if (f_BY_get (wtg k0 0) (x1 + (4 : Int32)) σ) = 1 then
  lt (f_SR_takePresets k0 x1 x2 σ) fun q4 =>
  some (q4.1, q4.2)
  else
  if (f_BY_get (wtg k0 0) (x1 + (4 : Int32)) σ) = 2 then
  (f_SR_takeTable k0 x1 x2 σ).bind fun q6 =>
  some (q6.1, q6.2)
  else
  some ((4 : Int32), σ)
  else
  some ((3 : Int32), σ)
set_option maxHeartbeats 4000000 in
set_option maxRecDepth 100000 in
theorem w_SR_takePresetsOrTable {F : Fx} (C : Ctx F prog_10_method_15_code 3 "LineFrames$StreamReader" (some .int) 3 70) {k0 : Nat} (h0k : Is k0 9) (x1 : Int32) (x2 : Int32) (σ : Mem) : J F 3 (cvO cvIM) (f_SR_takePresetsOrTable k0 x1 x2 σ) σ 0 [(0, .ref (fad F k0)), (1, .int x1), (2, .int x2)] [] := by
  unfold f_SR_takePresetsOrTable
  refine j_iload_n C d_SR_takePresetsOrTable_0 2 rfl ?_
  refine j_iconst (v := (3 : Int32)) C d_SR_takePresetsOrTable_1 (by decide) ?_
  refine j_icmp_ge (tgt := 7) C d_SR_takePresetsOrTable_2 (by decide) (fun c1 => ?_) (fun c1 => ?_)
  · refine j_aload_n C d_SR_takePresetsOrTable_7 0 rfl ?_
    refine j_getR C h0k fl_SR_72 rfl d_SR_takePresetsOrTable_8 ?_
    refine j_iload_n C d_SR_takePresetsOrTable_11 1 rfl ?_
    refine j_iconst (v := (4 : Int32)) C d_SR_takePresetsOrTable_12 (by decide) ?_
    refine j_iadd C d_SR_takePresetsOrTable_13 ?_
    refine j_callVi C mv_SR_123 [.int (x1 + (4 : Int32))] [] (tg_9_0 _ h0k) (c_BY_get (tg_9_0 _ h0k) (x1 + (4 : Int32)) σ) rfl rfl (by decide) (Nat.le_of_ble_eq_true rfl) d_SR_takePresetsOrTable_14 ?_
    refine j_case (fun c2 => ?_) (fun c2 => ?_)
    · refine j_look (off := 27) (tgt := 44) C d_SR_takePresetsOrTable_17 (by decide) (by rw [c2] <;> decide) (by decide) ?_
      refine j_aload_n C d_SR_takePresetsOrTable_44 0 rfl ?_
      refine j_iload_n C d_SR_takePresetsOrTable_45 1 rfl ?_
      refine j_iload_n C d_SR_takePresetsOrTable_46 2 rfl ?_
      refine j_callVi C mv_SR_188 [.int x1, .int x2] [] h0k (c_SR_takePresets h0k x1 x2 σ) rfl rfl (by decide) (Nat.le_of_ble_eq_true rfl) d_SR_takePresetsOrTable_47 ?_
      refine j_genIM (fun q4 => ?_)
      exact j_ireti C (fun ρ h => leaf_eq h) d_SR_takePresetsOrTable_50
    · refine j_case (fun c3 => ?_) (fun c3 => ?_)
      · refine j_look (off := 34) (tgt := 51) C d_SR_takePresetsOrTable_17 (by decide) (by rw [c3] <;> decide) (by decide) ?_
        refine j_aload_n C d_SR_takePresetsOrTable_51 0 rfl ?_
        refine j_iload_n C d_SR_takePresetsOrTable_52 1 rfl ?_
        refine j_iload_n C d_SR_takePresetsOrTable_53 2 rfl ?_
        refine j_bind rfl (fun q6 e5 => ?_)
        refine j_callVi C mv_SR_191 [.int x1, .int x2] [] h0k (c_SR_takeTable h0k x1 x2 σ e5) rfl rfl (by decide) (Nat.le_of_ble_eq_true rfl) d_SR_takePresetsOrTable_54 ?_
        exact j_ireti C (fun ρ h => leaf_eq h) d_SR_takePresetsOrTable_57
      · refine j_look (off := 41) (tgt := 58) C d_SR_takePresetsOrTable_17 (by decide) (by rw [lv_osw c2 (by decide), lv_osw c3 (by decide)] <;> rfl) (by decide) ?_
        refine j_iconst (v := (4 : Int32)) C d_SR_takePresetsOrTable_58 (by decide) ?_
        exact j_ireti C (fun ρ h => leaf_eq h) d_SR_takePresetsOrTable_59
  · refine j_iconst (v := (3 : Int32)) C d_SR_takePresetsOrTable_5 (by decide) ?_
    exact j_ireti C (fun ρ h => leaf_eq h) d_SR_takePresetsOrTable_6
theorem c_SR_takePresetsOrTable {l : Launch} {D : va_G} {G : GC} {ad : Nat → Nat} {k0 : Nat} (h0k : Is k0 9) (x1 : Int32) (x2 : Int32) (σ : Mem) {q : Int32 × Mem} (hq : f_SR_takePresetsOrTable k0 x1 x2 σ = some q) : Ctr l D G ad ⟨"LineFrames$StreamReader", "takePresetsOrTable", "(II)I"⟩ prog_10_method_15_code 3 (some .int) 3 70 [.ref (ad k0), .int x1, .int x2] σ (.inl (some (.int q.1)), q.2) := ctr_J (cv := (cvO cvIM)) (E := f_SR_takePresetsOrTable k0 x1 x2 σ) (by decide +kernel) (Nat.le_of_ble_eq_true rfl) (by rw [hq]; rfl) (fun F h C => by subst h; exact w_SR_takePresetsOrTable C h0k x1 x2 σ)
/-! LineFrames$StreamReader takeRestarts (II)I -/
theorem d_SR_takeRestarts_0 : decode prog_10_method_18_code 0 = .ok (.iload_n 2, 1) := by decide +kernel
theorem d_SR_takeRestarts_1 : decode prog_10_method_18_code 1 = .ok (.iconst 4, 1) := by decide +kernel
theorem d_SR_takeRestarts_2 : decode prog_10_method_18_code 2 = .ok (.if_icmp .eq 5, 3) := by decide +kernel
theorem d_SR_takeRestarts_5 : decode prog_10_method_18_code 5 = .ok (.iconst 3, 1) := by decide +kernel
theorem d_SR_takeRestarts_6 : decode prog_10_method_18_code 6 = .ok (.ireturn, 1) := by decide +kernel
theorem d_SR_takeRestarts_7 : decode prog_10_method_18_code 7 = .ok (.aload_n 0, 1) := by decide +kernel
theorem d_SR_takeRestarts_8 : decode prog_10_method_18_code 8 = .ok (.getfield 72, 3) := by decide +kernel
theorem d_SR_takeRestarts_11 : decode prog_10_method_18_code 11 = .ok (.iload_n 1, 1) := by decide +kernel
theorem d_SR_takeRestarts_12 : decode prog_10_method_18_code 12 = .ok (.iconst 4, 1) := by decide +kernel
theorem d_SR_takeRestarts_13 : decode prog_10_method_18_code 13 = .ok (.iadd, 1) := by decide +kernel
theorem d_SR_takeRestarts_14 : decode prog_10_method_18_code 14 = .ok (.invokevirtual 146, 3) := by decide +kernel
theorem d_SR_takeRestarts_17 : decode prog_10_method_18_code 17 = .ok (.istore_n 3, 1) := by decide +kernel
theorem d_SR_takeRestarts_18 : decode prog_10_method_18_code 18 = .ok (.iconst 2, 1) := by decide +kernel
theorem d_SR_takeRestarts_19 : decode prog_10_method_18_code 19 = .ok (.iload_n 3, 1) := by decide +kernel
theorem d_SR_takeRestarts_20 : decode prog_10_method_18_code 20 = .ok (.invokestatic 194, 3) := by decide +kernel
theorem d_SR_takeRestarts_23 : decode prog_10_method_18_code 23 = .ok (.ifCond .ne 5, 3) := by decide +kernel
theorem d_SR_takeRestarts_26 : decode prog_10_method_18_code 26 = .ok (.iconst 4, 1) := by decide +kernel
theorem d_SR_takeRestarts_27 : decode prog_10_method_18_code 27 = .ok (.ireturn, 1) := by decide +kernel
theorem d_SR_takeRestarts_28 : decode prog_10_method_18_code 28 = .ok (.aload_n 0, 1) := by decide +kernel
theorem d_SR_takeRestarts_29 : decode prog_10_method_18_code 29 = .ok (.getfield 12, 3) := by decide +kernel
theorem d_SR_takeRestarts_32 : decode prog_10_method_18_code 32 = .ok (.getfield 198, 3) := by decide +kernel
theorem d_SR_takeRestarts_35 : decode prog_10_method_18_code 35 = .ok (.iconst 2, 1) := by decide +kernel
theorem d_SR_takeRestarts_36 : decode prog_10_method_18_code 36 = .ok (.iload_n 3, 1) := by decide +kernel
theorem d_SR_takeRestarts_37 : decode prog_10_method_18_code 37 = .ok (.invokevirtual 201, 3) := by decide +kernel
theorem d_SR_takeRestarts_40 : decode prog_10_method_18_code 40 = .ok (.iconst 0, 1) := by decide +kernel
theorem d_SR_takeRestarts_41 : decode prog_10_method_18_code 41 = .ok (.ireturn, 1) := by decide +kernel
def f_SR_takeRestarts (k0 : Nat) (x1 : Int32) (x2 : Int32) (σ : Mem) : Int32 × Mem :=
  if x2 = (4 : Int32) then
  lt (f_BY_wide (wtg k0 0) (x1 + (4 : Int32)) σ) fun v2 =>
  if (f_PI_mayPreset (2 : Int32) v2 σ) = 0 then
  ((4 : Int32), σ)
  else
  lt (f_RO_set (wtg (wtg k0 1) 1) (2 : Int32) v2 σ) fun σ4 =>
  ((0 : Int32), σ4)
  else
  ((3 : Int32), σ)
set_option maxHeartbeats 4000000 in
set_option maxRecDepth 100000 in
theorem w_SR_takeRestarts {F : Fx} (C : Ctx F prog_10_method_18_code 4 "LineFrames$StreamReader" (some .int) 2 42) {k0 : Nat} (h0k : Is k0 9) (x1 : Int32) (x2 : Int32) (σ : Mem) : J F 4 cvIM (f_SR_takeRestarts k0 x1 x2 σ) σ 0 [(0, .ref (fad F k0)), (1, .int x1), (2, .int x2)] [] := by
  unfold f_SR_takeRestarts
  refine j_iload_n C d_SR_takeRestarts_0 2 rfl ?_
  refine j_iconst (v := (4 : Int32)) C d_SR_takeRestarts_1 (by decide) ?_
  refine j_icmp_eq (tgt := 7) C d_SR_takeRestarts_2 (by decide) (fun c1 => ?_) (fun c1 => ?_)
  · refine j_aload_n C d_SR_takeRestarts_7 0 rfl ?_
    refine j_getR C h0k fl_SR_72 rfl d_SR_takeRestarts_8 ?_
    refine j_iload_n C d_SR_takeRestarts_11 1 rfl ?_
    refine j_iconst (v := (4 : Int32)) C d_SR_takeRestarts_12 (by decide) ?_
    refine j_iadd C d_SR_takeRestarts_13 ?_
    refine j_callVi C mv_SR_146 [.int (x1 + (4 : Int32))] [] (tg_9_0 _ h0k) (c_BY_wide (tg_9_0 _ h0k) (x1 + (4 : Int32)) σ) rfl rfl (by decide) (Nat.le_of_ble_eq_true rfl) d_SR_takeRestarts_14 ?_
    refine j_nm (fun v2 v2_e => ?_)
    refine j_istore_n (lv9 := [(0, .ref (fad F k0)), (1, .int x1), (2, .int x2), (3, .int v2)]) C d_SR_takeRestarts_17 rfl rfl (by decide) ?_
    refine j_iconst (v := (2 : Int32)) C d_SR_takeRestarts_18 (by decide) ?_
    refine j_iload_n C d_SR_takeRestarts_19 3 rfl ?_
    refine j_callSi C ms_SR_194 [.int (2 : Int32), .int v2] [] (c_PI_mayPreset (2 : Int32) v2 σ) rfl rfl (by decide) (Nat.le_of_ble_eq_true rfl) d_SR_takeRestarts_20 ?_
    refine j_if_ne (tgt := 28) C d_SR_takeRestarts_23 (by decide) (fun c3 => ?_) (fun c3 => ?_)
    · refine j_aload_n C d_SR_takeRestarts_28 0 rfl ?_
      refine j_getR C h0k fl_SR_12 rfl d_SR_takeRestarts_29 ?_
      refine j_getR C (tg_9_1 _ h0k) fl_SR_198 rfl d_SR_takeRestarts_32 ?_
      refine j_iconst (v := (2 : Int32)) C d_SR_takeRestarts_35 (by decide) ?_
      refine j_iload_n C d_SR_takeRestarts_36 3 rfl ?_
      refine j_callVv C mv_SR_201 [.int (2 : Int32), .int v2] [] (tg_7_1 _ (tg_9_1 _ h0k)) (c_RO_set (tg_7_1 _ (tg_9_1 _ h0k)) (2 : Int32) v2 σ) rfl rfl (by decide) (Nat.le_of_ble_eq_true rfl) d_SR_takeRestarts_37 ?_
      refine j_genM (fun σ4 => ?_)
      refine j_iconst (v := (0 : Int32)) C d_SR_takeRestarts_40 (by decide) ?_
      exact j_ireti C (fun ρ h => leaf_eq h) d_SR_takeRestarts_41
    · refine j_iconst (v := (4 : Int32)) C d_SR_takeRestarts_26 (by decide) ?_
      exact j_ireti C (fun ρ h => leaf_eq h) d_SR_takeRestarts_27
  · refine j_iconst (v := (3 : Int32)) C d_SR_takeRestarts_5 (by decide) ?_
    exact j_ireti C (fun ρ h => leaf_eq h) d_SR_takeRestarts_6
theorem c_SR_takeRestarts {l : Launch} {D : va_G} {G : GC} {ad : Nat → Nat} {k0 : Nat} (h0k : Is k0 9) (x1 : Int32) (x2 : Int32) (σ : Mem) : Ctr l D G ad ⟨"LineFrames$StreamReader", "takeRestarts", "(II)I"⟩ prog_10_method_18_code 4 (some .int) 2 42 [.ref (ad k0), .int x1, .int x2] σ (.inl (some (.int (f_SR_takeRestarts k0 x1 x2 σ).1)), (f_SR_takeRestarts k0 x1 x2 σ).2) := ctr_J (cv := cvIM) (E := f_SR_takeRestarts k0 x1 x2 σ) (by decide +kernel) (Nat.le_of_ble_eq_true rfl) rfl (fun F h C => by subst h; exact w_SR_takeRestarts C h0k x1 x2 σ)
