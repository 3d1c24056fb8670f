/-! LineFrames$Model untell (IIII)V -/
theorem d_MD_untell_0 : decode prog_6_method_7_code 0 = .ok (.iload 4, 2) := by decide +kernel
theorem d_MD_untell_2 : decode prog_6_method_7_code 2 = .ok (.iconst 1, 1) := by decide +kernel
theorem d_MD_untell_3 : decode prog_6_method_7_code 3 = .ok (.iand, 1) := by decide +kernel
theorem d_MD_untell_4 : decode prog_6_method_7_code 4 = .ok (.ifCond .ne 10, 3) := by decide +kernel
theorem d_MD_untell_7 : decode prog_6_method_7_code 7 = .ok (.iload 4, 2) := by decide +kernel
theorem d_MD_untell_9 : decode prog_6_method_7_code 9 = .ok (.iconst 2, 1) := by decide +kernel
theorem d_MD_untell_10 : decode prog_6_method_7_code 10 = .ok (.idiv, 1) := by decide +kernel
theorem d_MD_untell_11 : decode prog_6_method_7_code 11 = .ok (.goto 10, 3) := by decide +kernel
theorem d_MD_untell_14 : decode prog_6_method_7_code 14 = .ok (.iload 4, 2) := by decide +kernel
theorem d_MD_untell_16 : decode prog_6_method_7_code 16 = .ok (.iconst 1, 1) := by decide +kernel
theorem d_MD_untell_17 : decode prog_6_method_7_code 17 = .ok (.iadd, 1) := by decide +kernel
theorem d_MD_untell_18 : decode prog_6_method_7_code 18 = .ok (.iconst 2, 1) := by decide +kernel
theorem d_MD_untell_19 : decode prog_6_method_7_code 19 = .ok (.idiv, 1) := by decide +kernel
theorem d_MD_untell_20 : decode prog_6_method_7_code 20 = .ok (.ineg, 1) := by decide +kernel
theorem d_MD_untell_21 : decode prog_6_method_7_code 21 = .ok (.istore 5, 2) := by decide +kernel
theorem d_MD_untell_23 : decode prog_6_method_7_code 23 = .ok (.iload_n 3, 1) := by decide +kernel
theorem d_MD_untell_24 : decode prog_6_method_7_code 24 = .ok (.aload_n 0, 1) := by decide +kernel
theorem d_MD_untell_25 : decode prog_6_method_7_code 25 = .ok (.getfield 30, 3) := by decide +kernel
theorem d_MD_untell_28 : decode prog_6_method_7_code 28 = .ok (.iload 5, 2) := by decide +kernel
theorem d_MD_untell_30 : decode prog_6_method_7_code 30 = .ok (.imul, 1) := by decide +kernel
theorem d_MD_untell_31 : decode prog_6_method_7_code 31 = .ok (.iadd, 1) := by decide +kernel
theorem d_MD_untell_32 : decode prog_6_method_7_code 32 = .ok (.istore 6, 2) := by decide +kernel
theorem d_MD_untell_34 : decode prog_6_method_7_code 34 = .ok (.iload 6, 2) := by decide +kernel
theorem d_MD_untell_36 : decode prog_6_method_7_code 36 = .ok (.aload_n 0, 1) := by decide +kernel
theorem d_MD_untell_37 : decode prog_6_method_7_code 37 = .ok (.getfield 27, 3) := by decide +kernel
theorem d_MD_untell_40 : decode prog_6_method_7_code 40 = .ok (.ineg, 1) := by decide +kernel
theorem d_MD_untell_41 : decode prog_6_method_7_code 41 = .ok (.if_icmp .ge 20, 3) := by decide +kernel
theorem d_MD_untell_44 : decode prog_6_method_7_code 44 = .ok (.iload 6, 2) := by decide +kernel
theorem d_MD_untell_46 : decode prog_6_method_7_code 46 = .ok (.aload_n 0, 1) := by decide +kernel
theorem d_MD_untell_47 : decode prog_6_method_7_code 47 = .ok (.getfield 30, 3) := by decide +kernel
theorem d_MD_untell_50 : decode prog_6_method_7_code 50 = .ok (.aload_n 0, 1) := by decide +kernel
theorem d_MD_untell_51 : decode prog_6_method_7_code 51 = .ok (.getfield 33, 3) := by decide +kernel
theorem d_MD_untell_54 : decode prog_6_method_7_code 54 = .ok (.imul, 1) := by decide +kernel
theorem d_MD_untell_55 : decode prog_6_method_7_code 55 = .ok (.iadd, 1) := by decide +kernel
theorem d_MD_untell_56 : decode prog_6_method_7_code 56 = .ok (.istore 6, 2) := by decide +kernel
theorem d_MD_untell_58 : decode prog_6_method_7_code 58 = .ok (.goto 31, 3) := by decide +kernel
theorem d_MD_untell_61 : decode prog_6_method_7_code 61 = .ok (.iload 6, 2) := by decide +kernel
theorem d_MD_untell_63 : decode prog_6_method_7_code 63 = .ok (.aload_n 0, 1) := by decide +kernel
theorem d_MD_untell_64 : decode prog_6_method_7_code 64 = .ok (.getfield 23, 3) := by decide +kernel
theorem d_MD_untell_67 : decode prog_6_method_7_code 67 = .ok (.aload_n 0, 1) := by decide +kernel
theorem d_MD_untell_68 : decode prog_6_method_7_code 68 = .ok (.getfield 27, 3) := by decide +kernel
theorem d_MD_untell_71 : decode prog_6_method_7_code 71 = .ok (.iadd, 1) := by decide +kernel
theorem d_MD_untell_72 : decode prog_6_method_7_code 72 = .ok (.if_icmp .le 17, 3) := by decide +kernel
theorem d_MD_untell_75 : decode prog_6_method_7_code 75 = .ok (.iload 6, 2) := by decide +kernel
theorem d_MD_untell_77 : decode prog_6_method_7_code 77 = .ok (.aload_n 0, 1) := by decide +kernel
theorem d_MD_untell_78 : decode prog_6_method_7_code 78 = .ok (.getfield 30, 3) := by decide +kernel
theorem d_MD_untell_81 : decode prog_6_method_7_code 81 = .ok (.aload_n 0, 1) := by decide +kernel
theorem d_MD_untell_82 : decode prog_6_method_7_code 82 = .ok (.getfield 33, 3) := by decide +kernel
theorem d_MD_untell_85 : decode prog_6_method_7_code 85 = .ok (.imul, 1) := by decide +kernel
theorem d_MD_untell_86 : decode prog_6_method_7_code 86 = .ok (.isub, 1) := by decide +kernel
theorem d_MD_untell_87 : decode prog_6_method_7_code 87 = .ok (.istore 6, 2) := by decide +kernel
theorem d_MD_untell_89 : decode prog_6_method_7_code 89 = .ok (.aload_n 0, 1) := by decide +kernel
theorem d_MD_untell_90 : decode prog_6_method_7_code 90 = .ok (.getfield 42, 3) := by decide +kernel
theorem d_MD_untell_93 : decode prog_6_method_7_code 93 = .ok (.iload_n 2, 1) := by decide +kernel
theorem d_MD_untell_94 : decode prog_6_method_7_code 94 = .ok (.aload_n 0, 1) := by decide +kernel
theorem d_MD_untell_95 : decode prog_6_method_7_code 95 = .ok (.iload 6, 2) := by decide +kernel
theorem d_MD_untell_97 : decode prog_6_method_7_code 97 = .ok (.invokevirtual 79, 3) := by decide +kernel
theorem d_MD_untell_100 : decode prog_6_method_7_code 100 = .ok (.invokevirtual 82, 3) := by decide +kernel
theorem d_MD_untell_103 : decode prog_6_method_7_code 103 = .ok (.aload_n 0, 1) := by decide +kernel
theorem d_MD_untell_104 : decode prog_6_method_7_code 104 = .ok (.iload_n 1, 1) := by decide +kernel
theorem d_MD_untell_105 : decode prog_6_method_7_code 105 = .ok (.iload 5, 2) := by decide +kernel
theorem d_MD_untell_107 : decode prog_6_method_7_code 107 = .ok (.invokevirtual 86, 3) := by decide +kernel
theorem d_MD_untell_110 : decode prog_6_method_7_code 110 = .ok (.return_, 1) := by decide +kernel
def f_MD_untell (k0 : Nat) (x1 : Int32) (x2 : Int32) (x3 : Int32) (x4 : Int32) (σ : Mem) : Mem :=
  lt (if (x4 &&& (1 : Int32)) = 0 then (x4 / (2 : Int32)) else (-((x4 + (1 : Int32)) / (2 : Int32)))) fun v3 =>
  lt (fun (y53 : Int32) => 
  lt (f_RO_set (wtg k0 0) x2 (f_MD_toSample k0 y53 σ) σ) fun σ56 =>
  lt (f_MD_learn k0 x1 v3 σ56) fun σ57 =>
  σ57) fun K54 =>
  if (-(σ k0 4)) ≤ (x3 + ((σ k0 5) * v3)) then
  if (x3 + ((σ k0 5) * v3)) ≤ ((σ k0 3) + (σ k0 4)) then
  K54 (x3 + ((σ k0 5) * v3))
  else
  lt ((x3 + ((σ k0 5) * v3)) - ((σ k0 5) * (σ k0 6))) fun v60 =>
  K54 v60
  else
  lt ((x3 + ((σ k0 5) * v3)) + ((σ k0 5) * (σ k0 6))) fun v61 =>
  K54 v61
set_option maxHeartbeats 4000000 in
set_option maxRecDepth 100000 in
theorem w_MD_untell {F : Fx} (C : Ctx F prog_6_method_7_code 7 "LineFrames$Model" none 2 46) {k0 : Nat} (h0k : Is k0 5) (x1 : Int32) (x2 : Int32) (x3 : Int32) (x4 : Int32) (σ : Mem) : J F 7 cvM (f_MD_untell k0 x1 x2 x3 x4 σ) σ 0 [(0, .ref (fad F k0)), (1, .int x1), (2, .int x2), (3, .int x3), (4, .int x4)] [] := by
  unfold f_MD_untell
  refine j_iload C d_MD_untell_0 4 rfl ?_
  refine j_iconst (v := (1 : Int32)) C d_MD_untell_2 (by decide) ?_
  refine j_iand C d_MD_untell_3 ?_
  refine d_if_ne (a := (x4 / (2 : Int32))) (b := (-((x4 + (1 : Int32)) / (2 : Int32)))) (jp := 21) (tgt := 14) C d_MD_untell_4 (by decide) (fun c1 k2 => ?_) (fun c1 k2 => ?_) ?_
  · refine j_iload C d_MD_untell_14 4 rfl ?_
    refine j_iconst (v := (1 : Int32)) C d_MD_untell_16 (by decide) ?_
    refine j_iadd C d_MD_untell_17 ?_
    refine j_iconst (v := (2 : Int32)) C d_MD_untell_18 (by decide) ?_
    refine j_idiv C d_MD_untell_19 (by decide) ?_
    refine j_ineg C d_MD_untell_20 ?_
    exact k2
  · refine j_iload C d_MD_untell_7 4 rfl ?_
    refine j_iconst (v := (2 : Int32)) C d_MD_untell_9 (by decide) ?_
    refine j_idiv C d_MD_untell_10 (by decide) ?_
    refine j_goto (tgt := 21) C d_MD_untell_11 (by decide) ?_
    exact k2
  refine j_nm (fun v3 v3_e => ?_)
  refine j_istore (lv9 := [(0, .ref (fad F k0)), (1, .int x1), (2, .int x2), (3, .int x3), (4, .int x4), (5, .int v3)]) C d_MD_untell_21 rfl rfl (by decide) ?_
  refine j_iload_n C d_MD_untell_23 3 rfl ?_
  refine j_aload_n C d_MD_untell_24 0 rfl ?_
  refine j_getI C h0k fl_MD_30 rfl d_MD_untell_25 ?_
  refine j_iload C d_MD_untell_28 5 rfl ?_
  refine j_imul C d_MD_untell_30 ?_
  refine j_iadd C d_MD_untell_31 ?_
  refine j_istore (lv9 := [(0, .ref (fad F k0)), (1, .int x1), (2, .int x2), (3, .int x3), (4, .int x4), (5, .int v3), (6, .int (x3 + ((σ k0 5) * v3)))]) C d_MD_untell_32 rfl rfl (by decide) ?_
  refine j_iload C d_MD_untell_34 6 rfl ?_
  refine j_aload_n C d_MD_untell_36 0 rfl ?_
  refine j_getI C h0k fl_MD_27 rfl d_MD_untell_37 ?_
  refine j_ineg C d_MD_untell_40 ?_
  refine j_join1 89 (fun y53 => [(0, .ref (fad F k0)), (1, .int x1), (2, .int x2), (3, .int x3), (4, .int x4), (5, .int v3), (6, .int y53)]) (fun _ => []) (fun y53 => ?_) (fun K54 H55 => ?_)
  · refine j_aload_n C d_MD_untell_89 0 rfl ?_
    refine j_getR C h0k fl_MD_42 rfl d_MD_untell_90 ?_
    refine j_iload_n C d_MD_untell_93 2 rfl ?_
    refine j_aload_n C d_MD_untell_94 0 rfl ?_
    refine j_iload C d_MD_untell_95 6 rfl ?_
    refine j_callVi C mv_MD_79 [.int y53] [.int x2, .ref (fad F (wtg k0 0))] h0k (c_MD_toSample h0k y53 σ) rfl rfl (by decide) (Nat.le_of_ble_eq_true rfl) d_MD_untell_97 ?_
    refine j_callVv C mv_MD_82 [.int x2, .int (f_MD_toSample k0 y53 σ)] [] (tg_5_0 _ h0k) (c_RO_set (tg_5_0 _ h0k) x2 (f_MD_toSample k0 y53 σ) σ) rfl rfl (by decide) (Nat.le_of_ble_eq_true rfl) d_MD_untell_100 ?_
    refine j_genM (fun σ56 => ?_)
    refine j_aload_n C d_MD_untell_103 0 rfl ?_
    refine j_iload_n C d_MD_untell_104 1 rfl ?_
    refine j_iload C d_MD_untell_105 5 rfl ?_
    refine j_callVv C mv_MD_86 [.int x1, .int v3] [] h0k (c_MD_learn h0k x1 v3 σ56) rfl rfl (by decide) (Nat.le_of_ble_eq_true rfl) d_MD_untell_107 ?_
    refine j_genM (fun σ57 => ?_)
    exact j_vret C (fun ρ h => leaf_eq h) d_MD_untell_110
  · refine j_icmp_ge (tgt := 61) C d_MD_untell_41 (by decide) (fun c58 => ?_) (fun c58 => ?_)
    · refine j_iload C d_MD_untell_61 6 rfl ?_
      refine j_aload_n C d_MD_untell_63 0 rfl ?_
      refine j_getI C h0k fl_MD_23 rfl d_MD_untell_64 ?_
      refine j_aload_n C d_MD_untell_67 0 rfl ?_
      refine j_getI C h0k fl_MD_27 rfl d_MD_untell_68 ?_
      refine j_iadd C d_MD_untell_71 ?_
      refine j_icmp_le (tgt := 89) C d_MD_untell_72 (by decide) (fun c59 => ?_) (fun c59 => ?_)
      · exact H55 (x3 + ((σ k0 5) * v3))
      · refine j_iload C d_MD_untell_75 6 rfl ?_
        refine j_aload_n C d_MD_untell_77 0 rfl ?_
        refine j_getI C h0k fl_MD_30 rfl d_MD_untell_78 ?_
        refine j_aload_n C d_MD_untell_81 0 rfl ?_
        refine j_getI C h0k fl_MD_33 rfl d_MD_untell_82 ?_
        refine j_imul C d_MD_untell_85 ?_
        refine j_isub C d_MD_untell_86 ?_
        refine j_nm (fun v60 v60_e => ?_)
        refine j_istore (lv9 := [(0, .ref (fad F k0)), (1, .int x1), (2, .int x2), (3, .int x3), (4, .int x4), (5, .int v3), (6, .int v60)]) C d_MD_untell_87 rfl rfl (by decide) ?_
        exact H55 v60
    · refine j_iload C d_MD_untell_44 6 rfl ?_
      refine j_aload_n C d_MD_untell_46 0 rfl ?_
      refine j_getI C h0k fl_MD_30 rfl d_MD_untell_47 ?_
      refine j_aload_n C d_MD_untell_50 0 rfl ?_
      refine j_getI C h0k fl_MD_33 rfl d_MD_untell_51 ?_
      refine j_imul C d_MD_untell_54 ?_
      refine j_iadd C d_MD_untell_55 ?_
      refine j_nm (fun v61 v61_e => ?_)
      refine j_istore (lv9 := [(0, .ref (fad F k0)), (1, .int x1), (2, .int x2), (3, .int x3), (4, .int x4), (5, .int v3), (6, .int v61)]) C d_MD_untell_56 rfl rfl (by decide) ?_
      refine j_goto (tgt := 89) C d_MD_untell_58 (by decide) ?_
      exact H55 v61
theorem c_MD_untell {l : Launch} {D : va_G} {G : GC} {ad : Nat → Nat} {k0 : Nat} (h0k : Is k0 5) (x1 : Int32) (x2 : Int32) (x3 : Int32) (x4 : Int32) (σ : Mem) : Ctr l D G ad ⟨"LineFrames$Model", "untell", "(IIII)V"⟩ prog_6_method_7_code 7 none 2 46 [.ref (ad k0), .int x1, .int x2, .int x3, .int x4] σ (.inl none, (f_MD_untell k0 x1 x2 x3 x4 σ)) := ctr_J (cv := cvM) (E := f_MD_untell k0 x1 x2 x3 x4 σ) (by decide +kernel) (Nat.le_of_ble_eq_true rfl) rfl (fun F h C => by subst h; exact w_MD_untell C h0k x1 x2 x3 x4 σ)
/-! LineFrames$StreamReader takeRow (IZ)V -/
theorem d_SR_takeRow_0 : decode prog_10_method_23_code 0 = .ok (.aload_n 0, 1) := by decide +kernel
theorem d_SR_takeRow_1 : decode prog_10_method_23_code 1 = .ok (.getfield 63, 3) := by decide +kernel
theorem d_SR_takeRow_4 : decode prog_10_method_23_code 4 = .ok (.iconst 2, 1) := by decide +kernel
theorem d_SR_takeRow_5 : decode prog_10_method_23_code 5 = .ok (.if_icmp .ne 7, 3) := by decide +kernel
theorem d_SR_takeRow_8 : decode prog_10_method_23_code 8 = .ok (.iconst 1, 1) := by decide +kernel
theorem d_SR_takeRow_9 : decode prog_10_method_23_code 9 = .ok (.goto 4, 3) := by decide +kernel
theorem d_SR_takeRow_12 : decode prog_10_method_23_code 12 = .ok (.iconst 0, 1) := by decide +kernel
theorem d_SR_takeRow_13 : decode prog_10_method_23_code 13 = .ok (.istore_n 3, 1) := by decide +kernel
theorem d_SR_takeRow_14 : decode prog_10_method_23_code 14 = .ok (.iload_n 3, 1) := by decide +kernel
theorem d_SR_takeRow_15 : decode prog_10_method_23_code 15 = .ok (.ifCond .eq 13, 3) := by decide +kernel
theorem d_SR_takeRow_18 : decode prog_10_method_23_code 18 = .ok (.aload_n 0, 1) := by decide +kernel
theorem d_SR_takeRow_19 : decode prog_10_method_23_code 19 = .ok (.getfield 12, 3) := by decide +kernel
theorem d_SR_takeRow_22 : decode prog_10_method_23_code 22 = .ok (.getfield 251, 3) := by decide +kernel
theorem d_SR_takeRow_25 : decode prog_10_method_23_code 25 = .ok (.goto 7, 3) := by decide +kernel
theorem d_SR_takeRow_28 : decode prog_10_method_23_code 28 = .ok (.aload_n 0, 1) := by decide +kernel
theorem d_SR_takeRow_29 : decode prog_10_method_23_code 29 = .ok (.getfield 57, 3) := by decide +kernel
theorem d_SR_takeRow_32 : decode prog_10_method_23_code 32 = .ok (.istore 4, 2) := by decide +kernel
theorem d_SR_takeRow_34 : decode prog_10_method_23_code 34 = .ok (.iload_n 3, 1) := by decide +kernel
theorem d_SR_takeRow_35 : decode prog_10_method_23_code 35 = .ok (.ifCond .eq 10, 3) := by decide +kernel
theorem d_SR_takeRow_38 : decode prog_10_method_23_code 38 = .ok (.aload_n 0, 1) := by decide +kernel
theorem d_SR_takeRow_39 : decode prog_10_method_23_code 39 = .ok (.getfield 57, 3) := by decide +kernel
theorem d_SR_takeRow_42 : decode prog_10_method_23_code 42 = .ok (.goto 10, 3) := by decide +kernel
theorem d_SR_takeRow_45 : decode prog_10_method_23_code 45 = .ok (.aload_n 0, 1) := by decide +kernel
theorem d_SR_takeRow_46 : decode prog_10_method_23_code 46 = .ok (.getfield 12, 3) := by decide +kernel
theorem d_SR_takeRow_49 : decode prog_10_method_23_code 49 = .ok (.getfield 251, 3) := by decide +kernel
theorem d_SR_takeRow_52 : decode prog_10_method_23_code 52 = .ok (.istore 5, 2) := by decide +kernel
theorem d_SR_takeRow_54 : decode prog_10_method_23_code 54 = .ok (.iconst 0, 1) := by decide +kernel
theorem d_SR_takeRow_55 : decode prog_10_method_23_code 55 = .ok (.istore 6, 2) := by decide +kernel
theorem d_SR_takeRow_57 : decode prog_10_method_23_code 57 = .ok (.iload 6, 2) := by decide +kernel
theorem d_SR_takeRow_59 : decode prog_10_method_23_code 59 = .ok (.iload 4, 2) := by decide +kernel
theorem d_SR_takeRow_61 : decode prog_10_method_23_code 61 = .ok (.if_icmp .ge 120, 3) := by decide +kernel
theorem d_SR_takeRow_64 : decode prog_10_method_23_code 64 = .ok (.iconst 0, 1) := by decide +kernel
theorem d_SR_takeRow_65 : decode prog_10_method_23_code 65 = .ok (.istore 7, 2) := by decide +kernel
theorem d_SR_takeRow_67 : decode prog_10_method_23_code 67 = .ok (.iload 7, 2) := by decide +kernel
theorem d_SR_takeRow_69 : decode prog_10_method_23_code 69 = .ok (.iload 5, 2) := by decide +kernel
theorem d_SR_takeRow_71 : decode prog_10_method_23_code 71 = .ok (.if_icmp .ge 104, 3) := by decide +kernel
theorem d_SR_takeRow_74 : decode prog_10_method_23_code 74 = .ok (.aload_n 0, 1) := by decide +kernel
theorem d_SR_takeRow_75 : decode prog_10_method_23_code 75 = .ok (.getfield 21, 3) := by decide +kernel
theorem d_SR_takeRow_78 : decode prog_10_method_23_code 78 = .ok (.invokevirtual 92, 3) := by decide +kernel
theorem d_SR_takeRow_81 : decode prog_10_method_23_code 81 = .ok (.ifCond .ne 94, 3) := by decide +kernel
theorem d_SR_takeRow_84 : decode prog_10_method_23_code 84 = .ok (.aload_n 0, 1) := by decide +kernel
theorem d_SR_takeRow_85 : decode prog_10_method_23_code 85 = .ok (.getfield 54, 3) := by decide +kernel
theorem d_SR_takeRow_88 : decode prog_10_method_23_code 88 = .ok (.iload_n 3, 1) := by decide +kernel
theorem d_SR_takeRow_89 : decode prog_10_method_23_code 89 = .ok (.ifCond .eq 8, 3) := by decide +kernel
theorem d_SR_takeRow_92 : decode prog_10_method_23_code 92 = .ok (.iload 7, 2) := by decide +kernel
theorem d_SR_takeRow_94 : decode prog_10_method_23_code 94 = .ok (.goto 5, 3) := by decide +kernel
theorem d_SR_takeRow_97 : decode prog_10_method_23_code 97 = .ok (.iload 6, 2) := by decide +kernel
theorem d_SR_takeRow_99 : decode prog_10_method_23_code 99 = .ok (.iadd, 1) := by decide +kernel
theorem d_SR_takeRow_100 : decode prog_10_method_23_code 100 = .ok (.istore 8, 2) := by decide +kernel
theorem d_SR_takeRow_102 : decode prog_10_method_23_code 102 = .ok (.iload_n 3, 1) := by decide +kernel
theorem d_SR_takeRow_103 : decode prog_10_method_23_code 103 = .ok (.ifCond .eq 8, 3) := by decide +kernel
theorem d_SR_takeRow_106 : decode prog_10_method_23_code 106 = .ok (.iload 6, 2) := by decide +kernel
theorem d_SR_takeRow_108 : decode prog_10_method_23_code 108 = .ok (.goto 5, 3) := by decide +kernel
theorem d_SR_takeRow_111 : decode prog_10_method_23_code 111 = .ok (.iload 7, 2) := by decide +kernel
theorem d_SR_takeRow_113 : decode prog_10_method_23_code 113 = .ok (.istore 9, 2) := by decide +kernel
theorem d_SR_takeRow_115 : decode prog_10_method_23_code 115 = .ok (.aload_n 0, 1) := by decide +kernel
theorem d_SR_takeRow_116 : decode prog_10_method_23_code 116 = .ok (.getfield 34, 3) := by decide +kernel
theorem d_SR_takeRow_119 : decode prog_10_method_23_code 119 = .ok (.iload 8, 2) := by decide +kernel
theorem d_SR_takeRow_121 : decode prog_10_method_23_code 121 = .ok (.iload 9, 2) := by decide +kernel
theorem d_SR_takeRow_123 : decode prog_10_method_23_code 123 = .ok (.iload_n 1, 1) := by decide +kernel
theorem d_SR_takeRow_124 : decode prog_10_method_23_code 124 = .ok (.iload_n 2, 1) := by decide +kernel
theorem d_SR_takeRow_125 : decode prog_10_method_23_code 125 = .ok (.invokevirtual 254, 3) := by decide +kernel
theorem d_SR_takeRow_128 : decode prog_10_method_23_code 128 = .ok (.istore 10, 2) := by decide +kernel
theorem d_SR_takeRow_130 : decode prog_10_method_23_code 130 = .ok (.aload_n 0, 1) := by decide +kernel
theorem d_SR_takeRow_131 : decode prog_10_method_23_code 131 = .ok (.getfield 81, 3) := by decide +kernel
theorem d_SR_takeRow_134 : decode prog_10_method_23_code 134 = .ok (.aload_n 0, 1) := by decide +kernel
theorem d_SR_takeRow_135 : decode prog_10_method_23_code 135 = .ok (.getfield 34, 3) := by decide +kernel
theorem d_SR_takeRow_138 : decode prog_10_method_23_code 138 = .ok (.iload 8, 2) := by decide +kernel
theorem d_SR_takeRow_140 : decode prog_10_method_23_code 140 = .ok (.invokevirtual 258, 3) := by decide +kernel
theorem d_SR_takeRow_143 : decode prog_10_method_23_code 143 = .ok (.invokevirtual 261, 3) := by decide +kernel
theorem d_SR_takeRow_146 : decode prog_10_method_23_code 146 = .ok (.istore 11, 2) := by decide +kernel
theorem d_SR_takeRow_148 : decode prog_10_method_23_code 148 = .ok (.aload_n 0, 1) := by decide +kernel
theorem d_SR_takeRow_149 : decode prog_10_method_23_code 149 = .ok (.getfield 34, 3) := by decide +kernel
theorem d_SR_takeRow_152 : decode prog_10_method_23_code 152 = .ok (.iload 8, 2) := by decide +kernel
theorem d_SR_takeRow_154 : decode prog_10_method_23_code 154 = .ok (.iload 8, 2) := by decide +kernel
theorem d_SR_takeRow_156 : decode prog_10_method_23_code 156 = .ok (.iload 9, 2) := by decide +kernel
theorem d_SR_takeRow_158 : decode prog_10_method_23_code 158 = .ok (.iload_n 1, 1) := by decide +kernel
theorem d_SR_takeRow_159 : decode prog_10_method_23_code 159 = .ok (.invokestatic 264, 3) := by decide +kernel
theorem d_SR_takeRow_162 : decode prog_10_method_23_code 162 = .ok (.iload 10, 2) := by decide +kernel
theorem d_SR_takeRow_164 : decode prog_10_method_23_code 164 = .ok (.iload 11, 2) := by decide +kernel
theorem d_SR_takeRow_166 : decode prog_10_method_23_code 166 = .ok (.invokevirtual 267, 3) := by decide +kernel
theorem d_SR_takeRow_169 : decode prog_10_method_23_code 169 = .ok (.iinc 7 1, 3) := by decide +kernel
theorem d_SR_takeRow_172 : decode prog_10_method_23_code 172 = .ok (.goto (-105), 3) := by decide +kernel
theorem d_SR_takeRow_175 : decode prog_10_method_23_code 175 = .ok (.iinc 6 1, 3) := by decide +kernel
theorem d_SR_takeRow_178 : decode prog_10_method_23_code 178 = .ok (.goto (-121), 3) := by decide +kernel
theorem d_SR_takeRow_181 : decode prog_10_method_23_code 181 = .ok (.return_, 1) := by decide +kernel
def L_SR_takeRow_67 (r0 : Nat) (b1 : Int32) (b2 : Int32) (b3 : Int32) (b4 : Int32) (b5 : Int32) (b6 : Int32) : Nat → Int32 → Mem →  Option (Int32 × Mem)
  | 0, _, _ => none
  | n + 1, a7, σ =>
  if b5 ≤ a7 then
  some (a7, σ)
  else
  if (f_FA_met (wtg r0 2) σ) = 0 then
  lt (f_MD_foretell (wtg r0 4) ((σ r0 8) + (if b3 = 0 then b6 else a7)) (if b3 = 0 then a7 else b6) b1 b2 σ) fun v17 =>
  (f_MD_shift (wtg r0 4) ((σ r0 8) + (if b3 = 0 then b6 else a7)) σ).bind fun r19 =>
  (f_BO_code (wtg r0 3) r19 σ).bind fun q21 =>
  lt (f_MD_untell (wtg r0 4) ((σ r0 8) + (if b3 = 0 then b6 else a7)) (f_LF_placeOf ((σ r0 8) + (if b3 = 0 then b6 else a7)) (if b3 = 0 then a7 else b6) b1 q21.2) v17 q21.1 q21.2) fun σ22 =>
  L_SR_takeRow_67 r0 b1 b2 b3 b4 b5 b6 n (a7 + (1 : Int32)) σ22
  else
  some (a7, σ)
def L_SR_takeRow_57 (r0 : Nat) (b1 : Int32) (b2 : Int32) (b3 : Int32) (b4 : Int32) (b5 : Int32) : Nat → Int32 → Mem →  Option (Int32 × Mem)
  | 0, _, _ => none
  | n + 1, a6, σ =>
  if b4 ≤ a6 then
  some (a6, σ)
  else
  (L_SR_takeRow_67 r0 b1 b2 b3 b4 b5 a6 9999 (0 : Int32) σ).bind fun q23 =>
  L_SR_takeRow_57 r0 b1 b2 b3 b4 b5 n (a6 + (1 : Int32)) q23.2
def f_SR_takeRow (k0 : Nat) (x1 : Int32) (x2 : Int32) (σ : Mem) : Option (Mem) :=
  lt (if (σ k0 11) = (2 : Int32) then (1 : Int32) else (0 : Int32)) fun v3 =>
  lt (if v3 = 0 then (σ k0 9) else (σ (wtg k0 1) 5)) fun v6 =>
  lt (if v3 = 0 then (σ (wtg k0 1) 5) else (σ k0 9)) fun v9 =>
  (L_SR_takeRow_57 k0 x1 x2 v3 v6 v9 9999 (0 : Int32) σ).bind fun q24 =>
  some (q24.2)
set_option maxHeartbeats 4000000 in
set_option maxRecDepth 100000 in
theorem wL_SR_takeRow_67 {F : Fx} (C : Ctx F prog_10_method_23_code 12 "LineFrames$StreamReader" none 4 88) {cv : Option (Int32 × Mem) → Option Rs} (h0 : cv none = none) (r0 : Nat) (hr0 : Is r0 9) (b1 : Int32) (b2 : Int32) (b3 : Int32) (b4 : Int32) (b5 : Int32) (b6 : Int32) (hex : ∀ q : Int32 × Mem, J F 12 cv (some q) q.2 175 [(0, .ref (fad F r0)), (1, .int b1), (2, .int b2), (3, .int b3), (4, .int b4), (5, .int b5), (6, .int b6), (7, .int q.1)] []) : ∀ (n : Nat) (a7 : Int32) (σ : Mem), J F 12 cv (L_SR_takeRow_67 r0 b1 b2 b3 b4 b5 b6 n a7 σ) σ 67 [(0, .ref (fad F r0)), (1, .int b1), (2, .int b2), (3, .int b3), (4, .int b4), (5, .int b5), (6, .int b6), (7, .int a7)] [] := by
  intro n
  induction n with
  | zero => intro a7 σ hE; rw [L_SR_takeRow_67, h0] at hE; cases hE
  | succ n ih =>
    intro a7 σ
    rw [L_SR_takeRow_67]
    refine j_iload C d_SR_takeRow_67 7 rfl ?_
    refine j_iload C d_SR_takeRow_69 5 rfl ?_
    refine j_icmp_ge (tgt := 175) C d_SR_takeRow_71 (by decide) (fun c11 => ?_) (fun c11 => ?_)
    · exact hex (a7, σ)
    · refine j_aload_n C d_SR_takeRow_74 0 rfl ?_
      refine j_getR C hr0 fl_SR_21 rfl d_SR_takeRow_75 ?_
      refine j_callVi C mv_SR_92 [] [] (tg_9_2 _ hr0) (c_FA_met (tg_9_2 _ hr0) σ) rfl rfl (by decide) (Nat.le_of_ble_eq_true rfl) d_SR_takeRow_78 ?_
      refine j_if_ne (tgt := 175) C d_SR_takeRow_81 (by decide) (fun c12 => ?_) (fun c12 => ?_)
      · exact hex (a7, σ)
      · refine j_aload_n C d_SR_takeRow_84 0 rfl ?_
        refine j_getI C hr0 fl_SR_54 rfl d_SR_takeRow_85 ?_
        refine j_iload_n C d_SR_takeRow_88 3 rfl ?_
        refine d_if_eq (a := b6) (b := a7) (jp := 99) (tgt := 97) C d_SR_takeRow_89 (by decide) (fun c13 k14 => ?_) (fun c13 k14 => ?_) ?_
        · refine j_iload C d_SR_takeRow_97 6 rfl ?_
          exact k14
        · refine j_iload C d_SR_takeRow_92 7 rfl ?_
          refine j_goto (tgt := 99) C d_SR_takeRow_94 (by decide) ?_
          exact k14
        refine j_iadd C d_SR_takeRow_99 ?_
        refine j_istore (lv9 := [(0, .ref (fad F r0)), (1, .int b1), (2, .int b2), (3, .int b3), (4, .int b4), (5, .int b5), (6, .int b6), (7, .int a7), (8, .int ((σ r0 8) + (if b3 = 0 then b6 else a7)))]) C d_SR_takeRow_100 rfl rfl (by decide) ?_
        refine j_iload_n C d_SR_takeRow_102 3 rfl ?_
        refine d_if_eq (a := a7) (b := b6) (jp := 113) (tgt := 111) C d_SR_takeRow_103 (by decide) (fun c15 k16 => ?_) (fun c15 k16 => ?_) ?_
        · refine j_iload C d_SR_takeRow_111 7 rfl ?_
          exact k16
        · refine j_iload C d_SR_takeRow_106 6 rfl ?_
          refine j_goto (tgt := 113) C d_SR_takeRow_108 (by decide) ?_
          exact k16
        refine j_istore (lv9 := [(0, .ref (fad F r0)), (1, .int b1), (2, .int b2), (3, .int b3), (4, .int b4), (5, .int b5), (6, .int b6), (7, .int a7), (8, .int ((σ r0 8) + (if b3 = 0 then b6 else a7))), (9, .int (if b3 = 0 then a7 else b6))]) C d_SR_takeRow_113 rfl rfl (by decide) ?_
        refine j_aload_n C d_SR_takeRow_115 0 rfl ?_
        refine j_getR C hr0 fl_SR_34 rfl d_SR_takeRow_116 ?_
        refine j_iload C d_SR_takeRow_119 8 rfl ?_
        refine j_iload C d_SR_takeRow_121 9 rfl ?_
        refine j_iload_n C d_SR_takeRow_123 1 rfl ?_
        refine j_iload_n C d_SR_takeRow_124 2 rfl ?_
        refine j_callVi C mv_SR_254 [.int ((σ r0 8) + (if b3 = 0 then b6 else a7)), .int (if b3 = 0 then a7 else b6), .int b1, .int b2] [] (tg_9_4 _ hr0) (c_MD_foretell (tg_9_4 _ hr0) ((σ r0 8) + (if b3 = 0 then b6 else a7)) (if b3 = 0 then a7 else b6) b1 b2 σ) rfl rfl (by decide) (Nat.le_of_ble_eq_true rfl) d_SR_takeRow_125 ?_
        refine j_nm (fun v17 v17_e => ?_)
        refine j_istore (lv9 := [(0, .ref (fad F r0)), (1, .int b1), (2, .int b2), (3, .int b3), (4, .int b4), (5, .int b5), (6, .int b6), (7, .int a7), (8, .int ((σ r0 8) + (if b3 = 0 then b6 else a7))), (9, .int (if b3 = 0 then a7 else b6)), (10, .int v17)]) C d_SR_takeRow_128 rfl rfl (by decide) ?_
        refine j_aload_n C d_SR_takeRow_130 0 rfl ?_
        refine j_getR C hr0 fl_SR_81 rfl d_SR_takeRow_131 ?_
        refine j_aload_n C d_SR_takeRow_134 0 rfl ?_
        refine j_getR C hr0 fl_SR_34 rfl d_SR_takeRow_135 ?_
        refine j_iload C d_SR_takeRow_138 8 rfl ?_
        refine j_bind (by exact h0) (fun r19 e18 => ?_)
        refine j_callVi C mv_SR_258 [.int ((σ r0 8) + (if b3 = 0 then b6 else a7))] [.ref (fad F (wtg r0 3))] (tg_9_4 _ hr0) (c_MD_shift (tg_9_4 _ hr0) ((σ r0 8) + (if b3 = 0 then b6 else a7)) σ e18) rfl rfl (by decide) (Nat.le_of_ble_eq_true rfl) d_SR_takeRow_140 ?_
        refine j_bind (by exact h0) (fun q21 e20 => ?_)
        refine j_callVi C mv_SR_261 [.int r19] [] (tg_9_3 _ hr0) (c_BO_code (tg_9_3 _ hr0) r19 σ e20) rfl rfl (by decide) (Nat.le_of_ble_eq_true rfl) d_SR_takeRow_143 ?_
        refine j_istore (lv9 := [(0, .ref (fad F r0)), (1, .int b1), (2, .int b2), (3, .int b3), (4, .int b4), (5, .int b5), (6, .int b6), (7, .int a7), (8, .int ((σ r0 8) + (if b3 = 0 then b6 else a7))), (9, .int (if b3 = 0 then a7 else b6)), (10, .int v17), (11, .int q21.1)]) C d_SR_takeRow_146 rfl rfl (by decide) ?_
        refine j_aload_n C d_SR_takeRow_148 0 rfl ?_
        refine j_getR C hr0 fl_SR_34 rfl d_SR_takeRow_149 ?_
        refine j_iload C d_SR_takeRow_152 8 rfl ?_
        refine j_iload C d_SR_takeRow_154 8 rfl ?_
        refine j_iload C d_SR_takeRow_156 9 rfl ?_
        refine j_iload_n C d_SR_takeRow_158 1 rfl ?_
        refine j_callSi C ms_SR_264 [.int ((σ r0 8) + (if b3 = 0 then b6 else a7)), .int (if b3 = 0 then a7 else b6), .int b1] [.int ((σ r0 8) + (if b3 = 0 then b6 else a7)), .ref (fad F (wtg r0 4))] (c_LF_placeOf ((σ r0 8) + (if b3 = 0 then b6 else a7)) (if b3 = 0 then a7 else b6) b1 q21.2) rfl rfl (by decide) (Nat.le_of_ble_eq_true rfl) d_SR_takeRow_159 ?_
        refine j_iload C d_SR_takeRow_162 10 rfl ?_
        refine j_iload C d_SR_takeRow_164 11 rfl ?_
        refine j_callVv C mv_SR_267 [.int ((σ r0 8) + (if b3 = 0 then b6 else a7)), .int (f_LF_placeOf ((σ r0 8) + (if b3 = 0 then b6 else a7)) (if b3 = 0 then a7 else b6) b1 q21.2), .int v17, .int q21.1] [] (tg_9_4 _ hr0) (c_MD_untell (tg_9_4 _ hr0) ((σ r0 8) + (if b3 = 0 then b6 else a7)) (f_LF_placeOf ((σ r0 8) + (if b3 = 0 then b6 else a7)) (if b3 = 0 then a7 else b6) b1 q21.2) v17 q21.1 q21.2) rfl rfl (by decide) (Nat.le_of_ble_eq_true rfl) d_SR_takeRow_166 ?_
        refine j_genM (fun σ22 => ?_)
        refine j_iinc (v := (a7 + (1 : Int32))) (lv9 := [(0, .ref (fad F r0)), (1, .int b1), (2, .int b2), (3, .int b3), (4, .int b4), (5, .int b5), (6, .int b6), (7, .int (a7 + (1 : Int32))), (8, .int ((σ r0 8) + (if b3 = 0 then b6 else a7))), (9, .int (if b3 = 0 then a7 else b6)), (10, .int v17), (11, .int q21.1)]) C d_SR_takeRow_169 7 rfl rfl rfl rfl (by decide) ?_
        refine j_goto (tgt := 67) C d_SR_takeRow_172 (by decide) ?_
        refine j_sub (lv9 := [(0, .ref (fad F r0)), (1, .int b1), (2, .int b2), (3, .int b3), (4, .int b4), (5, .int b5), (6, .int b6), (7, .int (a7 + (1 : Int32)))]) [0, 1, 2, 3, 4, 5, 6, 7] rfl ?_
        exact ih (a7 + (1 : Int32)) σ22
set_option maxHeartbeats 4000000 in
set_option maxRecDepth 100000 in
theorem wL_SR_takeRow_57 {F : Fx} (C : Ctx F prog_10_method_23_code 12 "LineFrames$StreamReader" none 4 88) {cv : Option (Int32 × Mem) → Option Rs} (h0 : cv none = none) (r0 : Nat) (hr0 : Is r0 9) (b1 : Int32) (b2 : Int32) (b3 : Int32) (b4 : Int32) (b5 : Int32) (hex : ∀ q : Int32 × Mem, J F 12 cv (some q) q.2 181 [(0, .ref (fad F r0)), (1, .int b1), (2, .int b2), (3, .int b3), (4, .int b4), (5, .int b5), (6, .int q.1)] []) : ∀ (n : Nat) (a6 : Int32) (σ : Mem), J F 12 cv (L_SR_takeRow_57 r0 b1 b2 b3 b4 b5 n a6 σ) σ 57 [(0, .ref (fad F r0)), (1, .int b1), (2, .int b2), (3, .int b3), (4, .int b4), (5, .int b5), (6, .int a6)] [] := by
  intro n
  induction n with
  | zero => intro a6 σ hE; rw [L_SR_takeRow_57, h0] at hE; cases hE
  | succ n ih =>
    intro a6 σ
    rw [L_SR_takeRow_57]
    refine j_iload C d_SR_takeRow_57 6 rfl ?_
    refine j_iload C d_SR_takeRow_59 4 rfl ?_
    refine j_icmp_ge (tgt := 181) C d_SR_takeRow_61 (by decide) (fun c10 => ?_) (fun c10 => ?_)
    · exact hex (a6, σ)
    · refine j_iconst (v := (0 : Int32)) C d_SR_takeRow_64 (by decide) ?_
      refine j_istore (lv9 := [(0, .ref (fad F r0)), (1, .int b1), (2, .int b2), (3, .int b3), (4, .int b4), (5, .int b5), (6, .int a6), (7, .int (0 : Int32))]) C d_SR_takeRow_65 rfl rfl (by decide) ?_
      refine j_loop (wL_SR_takeRow_67 C (by exact h0) r0 hr0 b1 b2 b3 b4 b5 a6 (fun q23 => j_some ?_) 9999 (0 : Int32) σ)
      refine j_iinc (v := (a6 + (1 : Int32))) (lv9 := [(0, .ref (fad F r0)), (1, .int b1), (2, .int b2), (3, .int b3), (4, .int b4), (5, .int b5), (6, .int (a6 + (1 : Int32))), (7, .int q23.1)]) C d_SR_takeRow_175 6 rfl rfl rfl rfl (by decide) ?_
      refine j_goto (tgt := 57) C d_SR_takeRow_178 (by decide) ?_
      refine j_sub (lv9 := [(0, .ref (fad F r0)), (1, .int b1), (2, .int b2), (3, .int b3), (4, .int b4), (5, .int b5), (6, .int (a6 + (1 : Int32)))]) [0, 1, 2, 3, 4, 5, 6] rfl ?_
      exact ih (a6 + (1 : Int32)) q23.2
set_option maxHeartbeats 4000000 in
set_option maxRecDepth 100000 in
theorem w_SR_takeRow {F : Fx} (C : Ctx F prog_10_method_23_code 12 "LineFrames$StreamReader" none 4 88) {k0 : Nat} (h0k : Is k0 9) (x1 : Int32) (x2 : Int32) (σ : Mem) : J F 12 (cvO cvM) (f_SR_takeRow k0 x1 x2 σ) σ 0 [(0, .ref (fad F k0)), (1, .int x1), (2, .int x2)] [] := by
  unfold f_SR_takeRow
  refine j_aload_n C d_SR_takeRow_0 0 rfl ?_
  refine j_getI C h0k fl_SR_63 rfl d_SR_takeRow_1 ?_
  refine j_iconst (v := (2 : Int32)) C d_SR_takeRow_4 (by decide) ?_
  refine d_icmp_ne (a := (1 : Int32)) (b := (0 : Int32)) (jp := 13) (tgt := 12) C d_SR_takeRow_5 (by decide) (fun c1 k2 => ?_) (fun c1 k2 => ?_) ?_
  · refine j_iconst (v := (0 : Int32)) C d_SR_takeRow_12 (by decide) ?_
    exact k2
  · refine j_iconst (v := (1 : Int32)) C d_SR_takeRow_8 (by decide) ?_
    refine j_goto (tgt := 13) C d_SR_takeRow_9 (by decide) ?_
    exact k2
  refine j_nm (fun v3 v3_e => ?_)
  refine j_istore_n (lv9 := [(0, .ref (fad F k0)), (1, .int x1), (2, .int x2), (3, .int v3)]) C d_SR_takeRow_13 rfl rfl (by decide) ?_
  refine j_iload_n C d_SR_takeRow_14 3 rfl ?_
  refine d_if_eq (a := (σ k0 9)) (b := (σ (wtg k0 1) 5)) (jp := 32) (tgt := 28) C d_SR_takeRow_15 (by decide) (fun c4 k5 => ?_) (fun c4 k5 => ?_) ?_
  · refine j_aload_n C d_SR_takeRow_28 0 rfl ?_
    refine j_getI C h0k fl_SR_57 rfl d_SR_takeRow_29 ?_
    exact k5
  · refine j_aload_n C d_SR_takeRow_18 0 rfl ?_
    refine j_getR C h0k fl_SR_12 rfl d_SR_takeRow_19 ?_
    refine j_getI C (tg_9_1 _ h0k) fl_SR_251 rfl d_SR_takeRow_22 ?_
    refine j_goto (tgt := 32) C d_SR_takeRow_25 (by decide) ?_
    exact k5
  refine j_nm (fun v6 v6_e => ?_)
  refine j_istore (lv9 := [(0, .ref (fad F k0)), (1, .int x1), (2, .int x2), (3, .int v3), (4, .int v6)]) C d_SR_takeRow_32 rfl rfl (by decide) ?_
  refine j_iload_n C d_SR_takeRow_34 3 rfl ?_
  refine d_if_eq (a := (σ (wtg k0 1) 5)) (b := (σ k0 9)) (jp := 52) (tgt := 45) C d_SR_takeRow_35 (by decide) (fun c7 k8 => ?_) (fun c7 k8 => ?_) ?_
  · refine j_aload_n C d_SR_takeRow_45 0 rfl ?_
    refine j_getR C h0k fl_SR_12 rfl d_SR_takeRow_46 ?_
    refine j_getI C (tg_9_1 _ h0k) fl_SR_251 rfl d_SR_takeRow_49 ?_
    exact k8
  · refine j_aload_n C d_SR_takeRow_38 0 rfl ?_
    refine j_getI C h0k fl_SR_57 rfl d_SR_takeRow_39 ?_
    refine j_goto (tgt := 52) C d_SR_takeRow_42 (by decide) ?_
    exact k8
  refine j_nm (fun v9 v9_e => ?_)
  refine j_istore (lv9 := [(0, .ref (fad F k0)), (1, .int x1), (2, .int x2), (3, .int v3), (4, .int v6), (5, .int v9)]) C d_SR_takeRow_52 rfl rfl (by decide) ?_
  refine j_iconst (v := (0 : Int32)) C d_SR_takeRow_54 (by decide) ?_
  refine j_istore (lv9 := [(0, .ref (fad F k0)), (1, .int x1), (2, .int x2), (3, .int v3), (4, .int v6), (5, .int v9), (6, .int (0 : Int32))]) C d_SR_takeRow_55 rfl rfl (by decide) ?_
  refine j_loop (wL_SR_takeRow_57 C rfl k0 h0k x1 x2 v3 v6 v9 (fun q24 => j_some ?_) 9999 (0 : Int32) σ)
  exact j_vret C (fun ρ h => leaf_eq h) d_SR_takeRow_181
theorem c_SR_takeRow {l : Launch} {D : va_G} {G : GC} {ad : Nat → Nat} {k0 : Nat} (h0k : Is k0 9) (x1 : Int32) (x2 : Int32) (σ : Mem) {q : Mem} (hq : f_SR_takeRow k0 x1 x2 σ = some q) : Ctr l D G ad ⟨"LineFrames$StreamReader", "takeRow", "(IZ)V"⟩ prog_10_method_23_code 12 none 4 88 [.ref (ad k0), .int x1, .int x2] σ (.inl none, q) := ctr_J (cv := (cvO cvM)) (E := f_SR_takeRow k0 x1 x2 σ) (by decide +kernel) (Nat.le_of_ble_eq_true rfl) (by rw [hq]; rfl) (fun F h C => by subst h; exact w_SR_takeRow C h0k x1 x2 σ)
/-! LineFrames$StreamReader endScan ()V -/
theorem d_SR_endScan_0 : decode prog_10_method_24_code 0 = .ok (.aload_n 0, 1) := by decide +kernel
theorem d_SR_endScan_1 : decode prog_10_method_24_code 1 = .ok (.getfield 54, 3) := by decide +kernel
theorem d_SR_endScan_4 : decode prog_10_method_24_code 4 = .ok (.istore_n 1, 1) := by decide +kernel
theorem d_SR_endScan_5 : decode prog_10_method_24_code 5 = .ok (.iload_n 1, 1) := by decide +kernel
theorem d_SR_endScan_6 : decode prog_10_method_24_code 6 = .ok (.aload_n 0, 1) := by decide +kernel
theorem d_SR_endScan_7 : decode prog_10_method_24_code 7 = .ok (.getfield 54, 3) := by decide +kernel
theorem d_SR_endScan_10 : decode prog_10_method_24_code 10 = .ok (.aload_n 0, 1) := by decide +kernel
theorem d_SR_endScan_11 : decode prog_10_method_24_code 11 = .ok (.getfield 57, 3) := by decide +kernel
theorem d_SR_endScan_14 : decode prog_10_method_24_code 14 = .ok (.iadd, 1) := by decide +kernel
theorem d_SR_endScan_15 : decode prog_10_method_24_code 15 = .ok (.if_icmp .ge 18, 3) := by decide +kernel
theorem d_SR_endScan_18 : decode prog_10_method_24_code 18 = .ok (.aload_n 0, 1) := by decide +kernel
theorem d_SR_endScan_19 : decode prog_10_method_24_code 19 = .ok (.getfield 43, 3) := by decide +kernel
theorem d_SR_endScan_22 : decode prog_10_method_24_code 22 = .ok (.iload_n 1, 1) := by decide +kernel
theorem d_SR_endScan_23 : decode prog_10_method_24_code 23 = .ok (.iconst 1, 1) := by decide +kernel
theorem d_SR_endScan_24 : decode prog_10_method_24_code 24 = .ok (.invokevirtual 201, 3) := by decide +kernel
theorem d_SR_endScan_27 : decode prog_10_method_24_code 27 = .ok (.iinc 1 1, 3) := by decide +kernel
theorem d_SR_endScan_30 : decode prog_10_method_24_code 30 = .ok (.goto (-25), 3) := by decide +kernel
theorem d_SR_endScan_33 : decode prog_10_method_24_code 33 = .ok (.aload_n 0, 1) := by decide +kernel
theorem d_SR_endScan_34 : decode prog_10_method_24_code 34 = .ok (.dup, 1) := by decide +kernel
theorem d_SR_endScan_35 : decode prog_10_method_24_code 35 = .ok (.getfield 69, 3) := by decide +kernel
theorem d_SR_endScan_38 : decode prog_10_method_24_code 38 = .ok (.iconst 1, 1) := by decide +kernel
theorem d_SR_endScan_39 : decode prog_10_method_24_code 39 = .ok (.iadd, 1) := by decide +kernel
theorem d_SR_endScan_40 : decode prog_10_method_24_code 40 = .ok (.putfield 69, 3) := by decide +kernel
theorem d_SR_endScan_43 : decode prog_10_method_24_code 43 = .ok (.aload_n 0, 1) := by decide +kernel
theorem d_SR_endScan_44 : decode prog_10_method_24_code 44 = .ok (.aload_n 0, 1) := by decide +kernel
theorem d_SR_endScan_45 : decode prog_10_method_24_code 45 = .ok (.getfield 81, 3) := by decide +kernel
theorem d_SR_endScan_48 : decode prog_10_method_24_code 48 = .ok (.invokevirtual 246, 3) := by decide +kernel
theorem d_SR_endScan_51 : decode prog_10_method_24_code 51 = .ok (.putfield 46, 3) := by decide +kernel
theorem d_SR_endScan_54 : decode prog_10_method_24_code 54 = .ok (.return_, 1) := by decide +kernel
def L_SR_endScan_5 (r0 : Nat) : Nat → Int32 → Mem →  Option (Int32 × Mem)
  | 0, _, _ => none
  | n + 1, a1, σ =>
  if ((σ r0 8) + (σ r0 9)) ≤ a1 then
  some (a1, σ)
  else
  lt (f_RO_set (wtg r0 5) a1 (1 : Int32) σ) fun σ2 =>
  L_SR_endScan_5 r0 n (a1 + (1 : Int32)) σ2
def f_SR_endScan (k0 : Nat) (σ : Mem) : Option (Mem) :=
  (L_SR_endScan_5 k0 9999 (σ k0 8) σ).bind fun q3 =>
  lt (mput q3.2 k0 13 ((q3.2 k0 13) + (1 : Int32))) fun σ4 =>
  lt (mput σ4 k0 6 (f_BO_next (wtg k0 3) σ4)) fun σ5 =>
  some (σ5)
set_option maxHeartbeats 4000000 in
set_option maxRecDepth 100000 in
theorem wL_SR_endScan_5 {F : Fx} (C : Ctx F prog_10_method_24_code 2 "LineFrames$StreamReader" none 1 22) {cv : Option (Int32 × Mem) → Option Rs} (h0 : cv none = none) (r0 : Nat) (hr0 : Is r0 9) (hex : ∀ q : Int32 × Mem, J F 2 cv (some q) q.2 33 [(0, .ref (fad F r0)), (1, .int q.1)] []) : ∀ (n : Nat) (a1 : Int32) (σ : Mem), J F 2 cv (L_SR_endScan_5 r0 n a1 σ) σ 5 [(0, .ref (fad F r0)), (1, .int a1)] [] := by
  intro n
  induction n with
  | zero => intro a1 σ hE; rw [L_SR_endScan_5, h0] at hE; cases hE
  | succ n ih =>
    intro a1 σ
    rw [L_SR_endScan_5]
    refine j_iload_n C d_SR_endScan_5 1 rfl ?_
    refine j_aload_n C d_SR_endScan_6 0 rfl ?_
    refine j_getI C hr0 fl_SR_54 rfl d_SR_endScan_7 ?_
    refine j_aload_n C d_SR_endScan_10 0 rfl ?_
    refine j_getI C hr0 fl_SR_57 rfl d_SR_endScan_11 ?_
    refine j_iadd C d_SR_endScan_14 ?_
    refine j_icmp_ge (tgt := 33) C d_SR_endScan_15 (by decide) (fun c1 => ?_) (fun c1 => ?_)
    · exact hex (a1, σ)
    · refine j_aload_n C d_SR_endScan_18 0 rfl ?_
      refine j_getR C hr0 fl_SR_43 rfl d_SR_endScan_19 ?_
      refine j_iload_n C d_SR_endScan_22 1 rfl ?_
      refine j_iconst (v := (1 : Int32)) C d_SR_endScan_23 (by decide) ?_
      refine j_callVv C mv_SR_201 [.int a1, .int (1 : Int32)] [] (tg_9_5 _ hr0) (c_RO_set (tg_9_5 _ hr0) a1 (1 : Int32) σ) rfl rfl (by decide) (Nat.le_of_ble_eq_true rfl) d_SR_endScan_24 ?_
      refine j_genM (fun σ2 => ?_)
      refine j_iinc (v := (a1 + (1 : Int32))) (lv9 := [(0, .ref (fad F r0)), (1, .int (a1 + (1 : Int32)))]) C d_SR_endScan_27 1 rfl rfl rfl rfl (by decide) ?_
      refine j_goto (tgt := 5) C d_SR_endScan_30 (by decide) ?_
      exact ih (a1 + (1 : Int32)) σ2
set_option maxHeartbeats 4000000 in
set_option maxRecDepth 100000 in
theorem w_SR_endScan {F : Fx} (C : Ctx F prog_10_method_24_code 2 "LineFrames$StreamReader" none 1 22) {k0 : Nat} (h0k : Is k0 9) (σ : Mem) : J F 2 (cvO cvM) (f_SR_endScan k0 σ) σ 0 [(0, .ref (fad F k0))] [] := by
  unfold f_SR_endScan
  refine j_aload_n C d_SR_endScan_0 0 rfl ?_
  refine j_getI C h0k fl_SR_54 rfl d_SR_endScan_1 ?_
  refine j_istore_n (lv9 := [(0, .ref (fad F k0)), (1, .int (σ k0 8))]) C d_SR_endScan_4 rfl rfl (by decide) ?_
  refine j_loop (wL_SR_endScan_5 C rfl k0 h0k (fun q3 => j_some ?_) 9999 (σ k0 8) σ)
  refine j_aload_n C d_SR_endScan_33 0 rfl ?_
  refine j_dup C d_SR_endScan_34 rfl ?_
  refine j_getI C h0k fl_SR_69 rfl d_SR_endScan_35 ?_
  refine j_iconst (v := (1 : Int32)) C d_SR_endScan_38 (by decide) ?_
  refine j_iadd C d_SR_endScan_39 ?_
  refine j_put C h0k fl_SR_69 fw_9_13 rfl rfl rfl d_SR_endScan_40 (fun σ4 => ?_)
  refine j_aload_n C d_SR_endScan_43 0 rfl ?_
  refine j_aload_n C d_SR_endScan_44 0 rfl ?_
  refine j_getR C h0k fl_SR_81 rfl d_SR_endScan_45 ?_
  refine j_callVi C mv_SR_246 [] [.ref (fad F k0)] (tg_9_3 _ h0k) (c_BO_next (tg_9_3 _ h0k) σ4) rfl rfl (by decide) (Nat.le_of_ble_eq_true rfl) d_SR_endScan_48 ?_
  refine j_put C h0k fl_SR_46 fw_9_6 rfl rfl rfl d_SR_endScan_51 (fun σ5 => ?_)
  exact j_vret C (fun ρ h => leaf_eq h) d_SR_endScan_54
theorem c_SR_endScan {l : Launch} {D : va_G} {G : GC} {ad : Nat → Nat} {k0 : Nat} (h0k : Is k0 9) (σ : Mem) {q : Mem} (hq : f_SR_endScan k0 σ = some q) : Ctr l D G ad ⟨"LineFrames$StreamReader", "endScan", "()V"⟩ prog_10_method_24_code 2 none 1 22 [.ref (ad k0)] σ (.inl none, q) := ctr_J (cv := (cvO cvM)) (E := f_SR_endScan k0 σ) (by decide +kernel) (Nat.le_of_ble_eq_true rfl) (by rw [hq]; rfl) (fun F h C => by subst h; exact w_SR_endScan C h0k σ)
/-! LineFrames$StreamReader data ()V -/
theorem d_SR_data_0 : decode prog_10_method_21_code 0 = .ok (.aload_n 0, 1) := by decide +kernel
theorem d_SR_data_1 : decode prog_10_method_21_code 1 = .ok (.getfield 34, 3) := by decide +kernel
theorem d_SR_data_4 : decode prog_10_method_21_code 4 = .ok (.aload_n 0, 1) := by decide +kernel
theorem d_SR_data_5 : decode prog_10_method_21_code 5 = .ok (.getfield 12, 3) := by decide +kernel
theorem d_SR_data_8 : decode prog_10_method_21_code 8 = .ok (.aload_n 0, 1) := by decide +kernel
theorem d_SR_data_9 : decode prog_10_method_21_code 9 = .ok (.getfield 60, 3) := by decide +kernel
theorem d_SR_data_12 : decode prog_10_method_21_code 12 = .ok (.invokevirtual 224, 3) := by decide +kernel
theorem d_SR_data_15 : decode prog_10_method_21_code 15 = .ok (.aload_n 0, 1) := by decide +kernel
theorem d_SR_data_16 : decode prog_10_method_21_code 16 = .ok (.getfield 81, 3) := by decide +kernel
theorem d_SR_data_19 : decode prog_10_method_21_code 19 = .ok (.aload_n 0, 1) := by decide +kernel
theorem d_SR_data_20 : decode prog_10_method_21_code 20 = .ok (.getfield 46, 3) := by decide +kernel
theorem d_SR_data_23 : decode prog_10_method_21_code 23 = .ok (.invokevirtual 228, 3) := by decide +kernel
theorem d_SR_data_26 : decode prog_10_method_21_code 26 = .ok (.aload_n 0, 1) := by decide +kernel
theorem d_SR_data_27 : decode prog_10_method_21_code 27 = .ok (.getfield 12, 3) := by decide +kernel
theorem d_SR_data_30 : decode prog_10_method_21_code 30 = .ok (.getfield 198, 3) := by decide +kernel
theorem d_SR_data_33 : decode prog_10_method_21_code 33 = .ok (.iconst 2, 1) := by decide +kernel
theorem d_SR_data_34 : decode prog_10_method_21_code 34 = .ok (.invokevirtual 142, 3) := by decide +kernel
theorem d_SR_data_37 : decode prog_10_method_21_code 37 = .ok (.istore_n 1, 1) := by decide +kernel
theorem d_SR_data_38 : decode prog_10_method_21_code 38 = .ok (.iconst 0, 1) := by decide +kernel
theorem d_SR_data_39 : decode prog_10_method_21_code 39 = .ok (.istore_n 2, 1) := by decide +kernel
theorem d_SR_data_40 : decode prog_10_method_21_code 40 = .ok (.iconst 0, 1) := by decide +kernel
theorem d_SR_data_41 : decode prog_10_method_21_code 41 = .ok (.istore_n 3, 1) := by decide +kernel
theorem d_SR_data_42 : decode prog_10_method_21_code 42 = .ok (.iconst 0, 1) := by decide +kernel
theorem d_SR_data_43 : decode prog_10_method_21_code 43 = .ok (.istore 4, 2) := by decide +kernel
theorem d_SR_data_45 : decode prog_10_method_21_code 45 = .ok (.iload 4, 2) := by decide +kernel
theorem d_SR_data_47 : decode prog_10_method_21_code 47 = .ok (.aload_n 0, 1) := by decide +kernel
theorem d_SR_data_48 : decode prog_10_method_21_code 48 = .ok (.getfield 12, 3) := by decide +kernel
theorem d_SR_data_51 : decode prog_10_method_21_code 51 = .ok (.getfield 230, 3) := by decide +kernel
theorem d_SR_data_54 : decode prog_10_method_21_code 54 = .ok (.if_icmp .ge 56, 3) := by decide +kernel
theorem d_SR_data_57 : decode prog_10_method_21_code 57 = .ok (.aload_n 0, 1) := by decide +kernel
theorem d_SR_data_58 : decode prog_10_method_21_code 58 = .ok (.getfield 21, 3) := by decide +kernel
theorem d_SR_data_61 : decode prog_10_method_21_code 61 = .ok (.invokevirtual 92, 3) := by decide +kernel
theorem d_SR_data_64 : decode prog_10_method_21_code 64 = .ok (.ifCond .ne 46, 3) := by decide +kernel
theorem d_SR_data_67 : decode prog_10_method_21_code 67 = .ok (.iload_n 1, 1) := by decide +kernel
theorem d_SR_data_68 : decode prog_10_method_21_code 68 = .ok (.ifCond .eq 18, 3) := by decide +kernel
theorem d_SR_data_71 : decode prog_10_method_21_code 71 = .ok (.iload_n 3, 1) := by decide +kernel
theorem d_SR_data_72 : decode prog_10_method_21_code 72 = .ok (.iload_n 1, 1) := by decide +kernel
theorem d_SR_data_73 : decode prog_10_method_21_code 73 = .ok (.if_icmp .ne 13, 3) := by decide +kernel
theorem d_SR_data_76 : decode prog_10_method_21_code 76 = .ok (.aload_n 0, 1) := by decide +kernel
theorem d_SR_data_77 : decode prog_10_method_21_code 77 = .ok (.iload_n 2, 1) := by decide +kernel
theorem d_SR_data_78 : decode prog_10_method_21_code 78 = .ok (.invokevirtual 233, 3) := by decide +kernel
theorem d_SR_data_81 : decode prog_10_method_21_code 81 = .ok (.iinc 2 1, 3) := by decide +kernel
theorem d_SR_data_84 : decode prog_10_method_21_code 84 = .ok (.iconst 0, 1) := by decide +kernel
theorem d_SR_data_85 : decode prog_10_method_21_code 85 = .ok (.istore_n 3, 1) := by decide +kernel
theorem d_SR_data_86 : decode prog_10_method_21_code 86 = .ok (.aload_n 0, 1) := by decide +kernel
theorem d_SR_data_87 : decode prog_10_method_21_code 87 = .ok (.iload 4, 2) := by decide +kernel
theorem d_SR_data_89 : decode prog_10_method_21_code 89 = .ok (.iload_n 3, 1) := by decide +kernel
theorem d_SR_data_90 : decode prog_10_method_21_code 90 = .ok (.ifCond .ne 7, 3) := by decide +kernel
theorem d_SR_data_93 : decode prog_10_method_21_code 93 = .ok (.iconst 1, 1) := by decide +kernel
theorem d_SR_data_94 : decode prog_10_method_21_code 94 = .ok (.goto 4, 3) := by decide +kernel
theorem d_SR_data_97 : decode prog_10_method_21_code 97 = .ok (.iconst 0, 1) := by decide +kernel
theorem d_SR_data_98 : decode prog_10_method_21_code 98 = .ok (.invokevirtual 236, 3) := by decide +kernel
theorem d_SR_data_101 : decode prog_10_method_21_code 101 = .ok (.iinc 3 1, 3) := by decide +kernel
theorem d_SR_data_104 : decode prog_10_method_21_code 104 = .ok (.iinc 4 1, 3) := by decide +kernel
theorem d_SR_data_107 : decode prog_10_method_21_code 107 = .ok (.goto (-62), 3) := by decide +kernel
theorem d_SR_data_110 : decode prog_10_method_21_code 110 = .ok (.aload_n 0, 1) := by decide +kernel
theorem d_SR_data_111 : decode prog_10_method_21_code 111 = .ok (.getfield 21, 3) := by decide +kernel
theorem d_SR_data_114 : decode prog_10_method_21_code 114 = .ok (.invokevirtual 92, 3) := by decide +kernel
theorem d_SR_data_117 : decode prog_10_method_21_code 117 = .ok (.ifCond .ne 10, 3) := by decide +kernel
theorem d_SR_data_120 : decode prog_10_method_21_code 120 = .ok (.aload_n 0, 1) := by decide +kernel
theorem d_SR_data_121 : decode prog_10_method_21_code 121 = .ok (.getfield 81, 3) := by decide +kernel
theorem d_SR_data_124 : decode prog_10_method_21_code 124 = .ok (.invokevirtual 240, 3) := by decide +kernel
theorem d_SR_data_127 : decode prog_10_method_21_code 127 = .ok (.aload_n 0, 1) := by decide +kernel
theorem d_SR_data_128 : decode prog_10_method_21_code 128 = .ok (.getfield 21, 3) := by decide +kernel
theorem d_SR_data_131 : decode prog_10_method_21_code 131 = .ok (.invokevirtual 92, 3) := by decide +kernel
theorem d_SR_data_134 : decode prog_10_method_21_code 134 = .ok (.ifCond .ne 7, 3) := by decide +kernel
theorem d_SR_data_137 : decode prog_10_method_21_code 137 = .ok (.aload_n 0, 1) := by decide +kernel
theorem d_SR_data_138 : decode prog_10_method_21_code 138 = .ok (.invokevirtual 243, 3) := by decide +kernel
theorem d_SR_data_141 : decode prog_10_method_21_code 141 = .ok (.return_, 1) := by decide +kernel
def L_SR_data_45 (r0 : Nat) (b1 : Int32) : Nat → Int32 → Int32 → Int32 → Mem →  Option (Int32 × Int32 × Int32 × Mem)
  | 0, _, _, _, _ => none
  | n + 1, a2, a3, a4, σ =>
  if (σ (wtg r0 1) 6) ≤ a4 then
  some (a2, a3, a4, σ)
  else
  if (f_FA_met (wtg r0 2) σ) = 0 then
  lt (fun (y44 : Int32) (y45 : Int32) (σ46 : Mem) => 
  (f_SR_takeRow r0 a4 (if y45 = 0 then (1 : Int32) else (0 : Int32)) σ46).bind fun σ52 =>
  L_SR_data_45 r0 b1 n y44 (y45 + (1 : Int32)) (a4 + (1 : Int32)) σ52) fun K47 =>
  if b1 = 0 then
  K47 a2 a3 σ
  else
  if a3 = b1 then
  (f_SR_passRestart r0 a2 σ).bind fun σ56 =>
  K47 (a2 + (1 : Int32)) (0 : Int32) σ56
  else
  K47 a2 a3 σ
  else
  some (a2, a3, a4, σ)
def f_SR_data (k0 : Nat) (σ : Mem) : Option (Mem) :=
  (f_MD_begin (wtg k0 4) (wtg k0 1) (σ k0 10) σ).bind fun σ2 =>
  lt (f_BO_begin (wtg k0 3) (σ2 k0 6) σ2) fun σ3 =>
  lt (f_RO_get (wtg (wtg k0 1) 1) (2 : Int32) σ3) fun v4 =>
  (L_SR_data_45 k0 v4 9999 (0 : Int32) (0 : Int32) (0 : Int32) σ3).bind fun q57 =>
  lt (fun  (σ79 : Mem) => 
  if (f_FA_met (wtg k0 2) σ79) = 0 then
  (f_SR_endScan k0 σ79).bind fun σ86 =>
  some (σ86)
  else
  some (σ79)) fun K80 =>
  if (f_FA_met (wtg k0 2) q57.2.2.2) = 0 then
  lt (f_BO_close (wtg k0 3) q57.2.2.2) fun σ88 =>
  K80 σ88
  else
  K80 q57.2.2.2
set_option maxHeartbeats 4000000 in
set_option maxRecDepth 100000 in
theorem wL_SR_data_45 {F : Fx} (C : Ctx F prog_10_method_21_code 5 "LineFrames$StreamReader" none 5 119) {cv : Option (Int32 × Int32 × Int32 × Mem) → Option Rs} (h0 : cv none = none) (r0 : Nat) (hr0 : Is r0 9) (b1 : Int32) (hex : ∀ q : Int32 × Int32 × Int32 × Mem, J F 5 cv (some q) q.2.2.2 110 [(0, .ref (fad F r0)), (1, .int b1), (2, .int q.1), (3, .int q.2.1), (4, .int q.2.2.1)] []) : ∀ (n : Nat) (a2 : Int32) (a3 : Int32) (a4 : Int32) (σ : Mem), J F 5 cv (L_SR_data_45 r0 b1 n a2 a3 a4 σ) σ 45 [(0, .ref (fad F r0)), (1, .int b1), (2, .int a2), (3, .int a3), (4, .int a4)] [] := by
  intro n
  induction n with
  | zero => intro a2 a3 a4 σ hE; rw [L_SR_data_45, h0] at hE; cases hE
  | succ n ih =>
    intro a2 a3 a4 σ
    rw [L_SR_data_45]
    refine j_iload C d_SR_data_45 4 rfl ?_
    refine j_aload_n C d_SR_data_47 0 rfl ?_
    refine j_getR C hr0 fl_SR_12 rfl d_SR_data_48 ?_
    refine j_getI C (tg_9_1 _ hr0) fl_SR_230 rfl d_SR_data_51 ?_
    refine j_icmp_ge (tgt := 110) C d_SR_data_54 (by decide) (fun c5 => ?_) (fun c5 => ?_)
    · exact hex (a2, a3, a4, σ)
    · refine j_aload_n C d_SR_data_57 0 rfl ?_
      refine j_getR C hr0 fl_SR_21 rfl d_SR_data_58 ?_
      refine j_callVi C mv_SR_92 [] [] (tg_9_2 _ hr0) (c_FA_met (tg_9_2 _ hr0) σ) rfl rfl (by decide) (Nat.le_of_ble_eq_true rfl) d_SR_data_61 ?_
      refine j_if_ne (tgt := 110) C d_SR_data_64 (by decide) (fun c6 => ?_) (fun c6 => ?_)
      · exact hex (a2, a3, a4, σ)
      · refine j_iload_n C d_SR_data_67 1 rfl ?_
        refine j_join2m 86 (fun y44 y45 _ => [(0, .ref (fad F r0)), (1, .int b1), (2, .int y44), (3, .int y45), (4, .int a4)]) (fun _ _ _ => []) (fun y44 y45 σ46 => ?_) (fun K47 H48 => ?_)
        · refine j_aload_n C d_SR_data_86 0 rfl ?_
          refine j_iload C d_SR_data_87 4 rfl ?_
          refine j_iload_n C d_SR_data_89 3 rfl ?_
          refine d_if_ne (a := (1 : Int32)) (b := (0 : Int32)) (jp := 98) (tgt := 97) C d_SR_data_90 (by decide) (fun c49 k50 => ?_) (fun c49 k50 => ?_) ?_
          · refine j_iconst (v := (0 : Int32)) C d_SR_data_97 (by decide) ?_
            exact k50
          · refine j_iconst (v := (1 : Int32)) C d_SR_data_93 (by decide) ?_
            refine j_goto (tgt := 98) C d_SR_data_94 (by decide) ?_
            exact k50
          refine j_bind (by exact h0) (fun σ52 e51 => ?_)
          refine j_callVv C mv_SR_236 [.int a4, .int (if y45 = 0 then (1 : Int32) else (0 : Int32))] [] hr0 (c_SR_takeRow hr0 a4 (if y45 = 0 then (1 : Int32) else (0 : Int32)) σ46 e51) rfl rfl (by decide) (Nat.le_of_ble_eq_true rfl) d_SR_data_98 ?_
          refine j_iinc (v := (y45 + (1 : Int32))) (lv9 := [(0, .ref (fad F r0)), (1, .int b1), (2, .int y44), (3, .int (y45 + (1 : Int32))), (4, .int a4)]) C d_SR_data_101 3 rfl rfl rfl rfl (by decide) ?_
          refine j_iinc (v := (a4 + (1 : Int32))) (lv9 := [(0, .ref (fad F r0)), (1, .int b1), (2, .int y44), (3, .int (y45 + (1 : Int32))), (4, .int (a4 + (1 : Int32)))]) C d_SR_data_104 4 rfl rfl rfl rfl (by decide) ?_
          refine j_goto (tgt := 45) C d_SR_data_107 (by decide) ?_
          exact ih y44 (y45 + (1 : Int32)) (a4 + (1 : Int32)) σ52
        · refine j_if_eq (tgt := 86) C d_SR_data_68 (by decide) (fun c53 => ?_) (fun c53 => ?_)
          · exact H48 a2 a3 σ
          · refine j_iload_n C d_SR_data_71 3 rfl ?_
            refine j_iload_n C d_SR_data_72 1 rfl ?_
            refine j_icmp_ne (tgt := 86) C d_SR_data_73 (by decide) (fun c54 => ?_) (fun c54 => ?_)
            · exact H48 a2 a3 σ
            · refine j_aload_n C d_SR_data_76 0 rfl ?_
              refine j_iload_n C d_SR_data_77 2 rfl ?_
              refine j_bind (by exact h0) (fun σ56 e55 => ?_)
              refine j_callVv C mv_SR_233 [.int a2] [] hr0 (c_SR_passRestart hr0 a2 σ e55) rfl rfl (by decide) (Nat.le_of_ble_eq_true rfl) d_SR_data_78 ?_
              refine j_iinc (v := (a2 + (1 : Int32))) (lv9 := [(0, .ref (fad F r0)), (1, .int b1), (2, .int (a2 + (1 : Int32))), (3, .int a3), (4, .int a4)]) C d_SR_data_81 2 rfl rfl rfl rfl (by decide) ?_
              refine j_iconst (v := (0 : Int32)) C d_SR_data_84 (by decide) ?_
              refine j_istore_n (lv9 := [(0, .ref (fad F r0)), (1, .int b1), (2, .int (a2 + (1 : Int32))), (3, .int (0 : Int32)), (4, .int a4)]) C d_SR_data_85 rfl rfl (by decide) ?_
              exact H48 (a2 + (1 : Int32)) (0 : Int32) σ56
set_option maxHeartbeats 4000000 in
set_option maxRecDepth 100000 in
theorem w_SR_data {F : Fx} (C : Ctx F prog_10_method_21_code 5 "LineFrames$StreamReader" none 5 119) {k0 : Nat} (h0k : Is k0 9) (σ : Mem) : J F 5 (cvO cvM) (f_SR_data k0 σ) σ 0 [(0, .ref (fad F k0))] [] := by
  unfold f_SR_data
  refine j_aload_n C d_SR_data_0 0 rfl ?_
  refine j_getR C h0k fl_SR_34 rfl d_SR_data_1 ?_
  refine j_aload_n C d_SR_data_4 0 rfl ?_
  refine j_getR C h0k fl_SR_12 rfl d_SR_data_5 ?_
  refine j_aload_n C d_SR_data_8 0 rfl ?_
  refine j_getI C h0k fl_SR_60 rfl d_SR_data_9 ?_
  refine j_bind rfl (fun σ2 e1 => ?_)
  refine j_callVv C mv_SR_224 [.ref (fad F (wtg k0 1)), .int (σ k0 10)] [] (tg_9_4 _ h0k) (c_MD_begin (tg_9_4 _ h0k) (tg_9_1 _ h0k) (σ k0 10) σ e1) rfl rfl (by decide) (Nat.le_of_ble_eq_true rfl) d_SR_data_12 ?_
  refine j_aload_n C d_SR_data_15 0 rfl ?_
  refine j_getR C h0k fl_SR_81 rfl d_SR_data_16 ?_
  refine j_aload_n C d_SR_data_19 0 rfl ?_
  refine j_getI C h0k fl_SR_46 rfl d_SR_data_20 ?_
  refine j_callVv C mv_SR_228 [.int (σ2 k0 6)] [] (tg_9_3 _ h0k) (c_BO_begin (tg_9_3 _ h0k) (σ2 k0 6) σ2) rfl rfl (by decide) (Nat.le_of_ble_eq_true rfl) d_SR_data_23 ?_
  refine j_genM (fun σ3 => ?_)
  refine j_aload_n C d_SR_data_26 0 rfl ?_
  refine j_getR C h0k fl_SR_12 rfl d_SR_data_27 ?_
  refine j_getR C (tg_9_1 _ h0k) fl_SR_198 rfl d_SR_data_30 ?_
  refine j_iconst (v := (2 : Int32)) C d_SR_data_33 (by decide) ?_
  refine j_callVi C mv_SR_142 [.int (2 : Int32)] [] (tg_7_1 _ (tg_9_1 _ h0k)) (c_RO_get (tg_7_1 _ (tg_9_1 _ h0k)) (2 : Int32) σ3) rfl rfl (by decide) (Nat.le_of_ble_eq_true rfl) d_SR_data_34 ?_
  refine j_nm (fun v4 v4_e => ?_)
  refine j_istore_n (lv9 := [(0, .ref (fad F k0)), (1, .int v4)]) C d_SR_data_37 rfl rfl (by decide) ?_
  refine j_iconst (v := (0 : Int32)) C d_SR_data_38 (by decide) ?_
  refine j_istore_n (lv9 := [(0, .ref (fad F k0)), (1, .int v4), (2, .int (0 : Int32))]) C d_SR_data_39 rfl rfl (by decide) ?_
  refine j_iconst (v := (0 : Int32)) C d_SR_data_40 (by decide) ?_
  refine j_istore_n (lv9 := [(0, .ref (fad F k0)), (1, .int v4), (2, .int (0 : Int32)), (3, .int (0 : Int32))]) C d_SR_data_41 rfl rfl (by decide) ?_
  refine j_iconst (v := (0 : Int32)) C d_SR_data_42 (by decide) ?_
  refine j_istore (lv9 := [(0, .ref (fad F k0)), (1, .int v4), (2, .int (0 : Int32)), (3, .int (0 : Int32)), (4, .int (0 : Int32))]) C d_SR_data_43 rfl rfl (by decide) ?_
  refine j_loop (wL_SR_data_45 C rfl k0 h0k v4 (fun q57 => j_some ?_) 9999 (0 : Int32) (0 : Int32) (0 : Int32) σ3)
  refine j_aload_n C d_SR_data_110 0 rfl ?_
  refine j_getR C h0k fl_SR_21 rfl d_SR_data_111 ?_
  refine j_callVi C mv_SR_92 [] [] (tg_9_2 _ h0k) (c_FA_met (tg_9_2 _ h0k) q57.2.2.2) rfl rfl (by decide) (Nat.le_of_ble_eq_true rfl) d_SR_data_114 ?_
  refine j_join0m 127 (fun _ => [(0, .ref (fad F k0)), (1, .int v4), (2, .int q57.1), (3, .int q57.2.1), (4, .int q57.2.2.1)]) (fun _ => []) (fun σ79 => ?_) (fun K80 H81 => ?_)
  · refine j_aload_n C d_SR_data_127 0 rfl ?_
    refine j_getR C h0k fl_SR_21 rfl d_SR_data_128 ?_
    refine j_callVi C mv_SR_92 [] [] (tg_9_2 _ h0k) (c_FA_met (tg_9_2 _ h0k) σ79) rfl rfl (by decide) (Nat.le_of_ble_eq_true rfl) d_SR_data_131 ?_
    refine j_if_ne (tgt := 141) C d_SR_data_134 (by decide) (fun c84 => ?_) (fun c84 => ?_)
    · exact j_vret C (fun ρ h => leaf_eq h) d_SR_data_141
    · refine j_aload_n C d_SR_data_137 0 rfl ?_
      refine j_bind rfl (fun σ86 e85 => ?_)
      refine j_callVv C mv_SR_243 [] [] h0k (c_SR_endScan h0k σ79 e85) rfl rfl (by decide) (Nat.le_of_ble_eq_true rfl) d_SR_data_138 ?_
      exact j_vret C (fun ρ h => leaf_eq h) d_SR_data_141
  · refine j_if_ne (tgt := 127) C d_SR_data_117 (by decide) (fun c87 => ?_) (fun c87 => ?_)
    · exact H81 q57.2.2.2
    · refine j_aload_n C d_SR_data_120 0 rfl ?_
      refine j_getR C h0k fl_SR_81 rfl d_SR_data_121 ?_
      refine j_callVv C mv_SR_240 [] [] (tg_9_3 _ h0k) (c_BO_close (tg_9_3 _ h0k) q57.2.2.2) rfl rfl (by decide) (Nat.le_of_ble_eq_true rfl) d_SR_data_124 ?_
      refine j_genM (fun σ88 => ?_)
      exact H81 σ88
theorem c_SR_data {l : Launch} {D : va_G} {G : GC} {ad : Nat → Nat} {k0 : Nat} (h0k : Is k0 9) (σ : Mem) {q : Mem} (hq : f_SR_data k0 σ = some q) : Ctr l D G ad ⟨"LineFrames$StreamReader", "data", "()V"⟩ prog_10_method_21_code 5 none 5 119 [.ref (ad k0)] σ (.inl none, q) := ctr_J (cv := (cvO cvM)) (E := f_SR_data k0 σ) (by decide +kernel) (Nat.le_of_ble_eq_true rfl) (by rw [hq]; rfl) (fun F h C => by subst h; exact w_SR_data C h0k σ)
/-! LineFrames$StreamReader step ()V -/
theorem d_SR_step_0 : decode prog_10_method_4_code 0 = .ok (.aload_n 0, 1) := by decide +kernel
theorem d_SR_step_1 : decode prog_10_method_4_code 1 = .ok (.getfield 46, 3) := by decide +kernel
theorem d_SR_step_4 : decode prog_10_method_4_code 4 = .ok (.istore_n 1, 1) := by decide +kernel
theorem d_SR_step_5 : decode prog_10_method_4_code 5 = .ok (.aload_n 0, 1) := by decide +kernel
theorem d_SR_step_6 : decode prog_10_method_4_code 6 = .ok (.iload_n 1, 1) := by decide +kernel
theorem d_SR_step_7 : decode prog_10_method_4_code 7 = .ok (.invokevirtual 96, 3) := by decide +kernel
theorem d_SR_step_10 : decode prog_10_method_4_code 10 = .ok (.istore_n 2, 1) := by decide +kernel
theorem d_SR_step_11 : decode prog_10_method_4_code 11 = .ok (.aload_n 0, 1) := by decide +kernel
theorem d_SR_step_12 : decode prog_10_method_4_code 12 = .ok (.iload_n 1, 1) := by decide +kernel
theorem d_SR_step_13 : decode prog_10_method_4_code 13 = .ok (.iconst 2, 1) := by decide +kernel
theorem d_SR_step_14 : decode prog_10_method_4_code 14 = .ok (.iadd, 1) := by decide +kernel
theorem d_SR_step_15 : decode prog_10_method_4_code 15 = .ok (.putfield 46, 3) := by decide +kernel
theorem d_SR_step_18 : decode prog_10_method_4_code 18 = .ok (.aload_n 0, 1) := by decide +kernel
theorem d_SR_step_19 : decode prog_10_method_4_code 19 = .ok (.getfield 21, 3) := by decide +kernel
theorem d_SR_step_22 : decode prog_10_method_4_code 22 = .ok (.invokevirtual 92, 3) := by decide +kernel
theorem d_SR_step_25 : decode prog_10_method_4_code 25 = .ok (.ifCond .ne 10, 3) := by decide +kernel
theorem d_SR_step_28 : decode prog_10_method_4_code 28 = .ok (.iload_n 2, 1) := by decide +kernel
theorem d_SR_step_29 : decode prog_10_method_4_code 29 = .ok (.sipush 216, 3) := by decide +kernel
theorem d_SR_step_32 : decode prog_10_method_4_code 32 = .ok (.if_icmp .ne 4, 3) := by decide +kernel
theorem d_SR_step_35 : decode prog_10_method_4_code 35 = .ok (.return_, 1) := by decide +kernel
theorem d_SR_step_36 : decode prog_10_method_4_code 36 = .ok (.iload_n 2, 1) := by decide +kernel
theorem d_SR_step_37 : decode prog_10_method_4_code 37 = .ok (.sipush 217, 3) := by decide +kernel
theorem d_SR_step_40 : decode prog_10_method_4_code 40 = .ok (.if_icmp .ne 8, 3) := by decide +kernel
theorem d_SR_step_43 : decode prog_10_method_4_code 43 = .ok (.aload_n 0, 1) := by decide +kernel
theorem d_SR_step_44 : decode prog_10_method_4_code 44 = .ok (.invokevirtual 100, 3) := by decide +kernel
theorem d_SR_step_47 : decode prog_10_method_4_code 47 = .ok (.return_, 1) := by decide +kernel
theorem d_SR_step_48 : decode prog_10_method_4_code 48 = .ok (.aload_n 0, 1) := by decide +kernel
theorem d_SR_step_49 : decode prog_10_method_4_code 49 = .ok (.iload_n 1, 1) := by decide +kernel
theorem d_SR_step_50 : decode prog_10_method_4_code 50 = .ok (.invokevirtual 103, 3) := by decide +kernel
theorem d_SR_step_53 : decode prog_10_method_4_code 53 = .ok (.istore_n 3, 1) := by decide +kernel
theorem d_SR_step_54 : decode prog_10_method_4_code 54 = .ok (.aload_n 0, 1) := by decide +kernel
theorem d_SR_step_55 : decode prog_10_method_4_code 55 = .ok (.getfield 21, 3) := by decide +kernel
theorem d_SR_step_58 : decode prog_10_method_4_code 58 = .ok (.invokevirtual 92, 3) := by decide +kernel
theorem d_SR_step_61 : decode prog_10_method_4_code 61 = .ok (.ifCond .eq 4, 3) := by decide +kernel
theorem d_SR_step_64 : decode prog_10_method_4_code 64 = .ok (.return_, 1) := by decide +kernel
theorem d_SR_step_65 : decode prog_10_method_4_code 65 = .ok (.aload_n 0, 1) := by decide +kernel
theorem d_SR_step_66 : decode prog_10_method_4_code 66 = .ok (.iload_n 1, 1) := by decide +kernel
theorem d_SR_step_67 : decode prog_10_method_4_code 67 = .ok (.iconst 2, 1) := by decide +kernel
theorem d_SR_step_68 : decode prog_10_method_4_code 68 = .ok (.iadd, 1) := by decide +kernel
theorem d_SR_step_69 : decode prog_10_method_4_code 69 = .ok (.iload_n 3, 1) := by decide +kernel
theorem d_SR_step_70 : decode prog_10_method_4_code 70 = .ok (.iadd, 1) := by decide +kernel
theorem d_SR_step_71 : decode prog_10_method_4_code 71 = .ok (.putfield 46, 3) := by decide +kernel
theorem d_SR_step_74 : decode prog_10_method_4_code 74 = .ok (.aload_n 0, 1) := by decide +kernel
theorem d_SR_step_75 : decode prog_10_method_4_code 75 = .ok (.iload_n 2, 1) := by decide +kernel
theorem d_SR_step_76 : decode prog_10_method_4_code 76 = .ok (.iload_n 1, 1) := by decide +kernel
theorem d_SR_step_77 : decode prog_10_method_4_code 77 = .ok (.iload_n 3, 1) := by decide +kernel
theorem d_SR_step_78 : decode prog_10_method_4_code 78 = .ok (.invokevirtual 106, 3) := by decide +kernel
theorem d_SR_step_81 : decode prog_10_method_4_code 81 = .ok (.istore 4, 2) := by decide +kernel
theorem d_SR_step_83 : decode prog_10_method_4_code 83 = .ok (.iload 4, 2) := by decide +kernel
theorem d_SR_step_85 : decode prog_10_method_4_code 85 = .ok (.ifCond .eq 16, 3) := by decide +kernel
theorem d_SR_step_88 : decode prog_10_method_4_code 88 = .ok (.aload_n 0, 1) := by decide +kernel
theorem d_SR_step_89 : decode prog_10_method_4_code 89 = .ok (.getfield 21, 3) := by decide +kernel
theorem d_SR_step_92 : decode prog_10_method_4_code 92 = .ok (.iload 4, 2) := by decide +kernel
theorem d_SR_step_94 : decode prog_10_method_4_code 94 = .ok (.iload_n 1, 1) := by decide +kernel
theorem d_SR_step_95 : decode prog_10_method_4_code 95 = .ok (.invokevirtual 110, 3) := by decide +kernel
theorem d_SR_step_98 : decode prog_10_method_4_code 98 = .ok (.goto 14, 3) := by decide +kernel
theorem d_SR_step_101 : decode prog_10_method_4_code 101 = .ok (.iload_n 2, 1) := by decide +kernel
theorem d_SR_step_102 : decode prog_10_method_4_code 102 = .ok (.sipush 218, 3) := by decide +kernel
theorem d_SR_step_105 : decode prog_10_method_4_code 105 = .ok (.if_icmp .ne 7, 3) := by decide +kernel
theorem d_SR_step_108 : decode prog_10_method_4_code 108 = .ok (.aload_n 0, 1) := by decide +kernel
theorem d_SR_step_109 : decode prog_10_method_4_code 109 = .ok (.invokevirtual 114, 3) := by decide +kernel
theorem d_SR_step_112 : decode prog_10_method_4_code 112 = .ok (.return_, 1) := by decide +kernel
def f_SR_step (k0 : Nat) (σ : Mem) : Option (Mem) :=
  (f_SR_markAt k0 (σ k0 6) σ).bind fun q2 =>
  lt (mput q2.2 k0 6 ((σ k0 6) + (2 : Int32))) fun σ3 =>
  if (f_FA_met (wtg k0 2) σ3) = 0 then
  if q2.1 = (216 : Int32) then
  some (σ3)
  else
  if q2.1 = (217 : Int32) then
  lt (f_SR_end k0 σ3) fun σ25 =>
  some (σ25)
  else
  lt (f_SR_lengthAt k0 (σ k0 6) σ3) fun q9 =>
  if (f_FA_met (wtg k0 2) q9.2) = 0 then
  lt (mput q9.2 k0 6 (((σ k0 6) + (2 : Int32)) + q9.1)) fun σ11 =>
  (f_SR_take k0 q2.1 (σ k0 6) q9.1 σ11).bind fun q13 =>
  if q13.1 = 0 then
  if q2.1 = (218 : Int32) then
  (f_SR_data k0 q13.2).bind fun σ23 =>
  some (σ23)
  else
  some (q13.2)
  else
  lt (f_FA_meet (wtg k0 2) q13.1 (σ k0 6) q13.2) fun σ24 =>
  some (σ24)
  else
  some (q9.2)
  else
  some (σ3)
set_option maxHeartbeats 4000000 in
set_option maxRecDepth 100000 in
theorem w_SR_step {F : Fx} (C : Ctx F prog_10_method_4_code 5 "LineFrames$StreamReader" none 6 143) {k0 : Nat} (h0k : Is k0 9) (σ : Mem) : J F 5 (cvO cvM) (f_SR_step k0 σ) σ 0 [(0, .ref (fad F k0))] [] := by
  unfold f_SR_step
  refine j_aload_n C d_SR_step_0 0 rfl ?_
  refine j_getI C h0k fl_SR_46 rfl d_SR_step_1 ?_
  refine j_istore_n (lv9 := [(0, .ref (fad F k0)), (1, .int (σ k0 6))]) C d_SR_step_4 rfl rfl (by decide) ?_
  refine j_aload_n C d_SR_step_5 0 rfl ?_
  refine j_iload_n C d_SR_step_6 1 rfl ?_
  refine j_bind rfl (fun q2 e1 => ?_)
  refine j_callVi C mv_SR_96 [.int (σ k0 6)] [] h0k (c_SR_markAt h0k (σ k0 6) σ e1) rfl rfl (by decide) (Nat.le_of_ble_eq_true rfl) d_SR_step_7 ?_
  refine j_istore_n (lv9 := [(0, .ref (fad F k0)), (1, .int (σ k0 6)), (2, .int q2.1)]) C d_SR_step_10 rfl rfl (by decide) ?_
  refine j_aload_n C d_SR_step_11 0 rfl ?_
  refine j_iload_n C d_SR_step_12 1 rfl ?_
  refine j_iconst (v := (2 : Int32)) C d_SR_step_13 (by decide) ?_
  refine j_iadd C d_SR_step_14 ?_
  refine j_put C h0k fl_SR_46 fw_9_6 rfl rfl rfl d_SR_step_15 (fun σ3 => ?_)
  refine j_aload_n C d_SR_step_18 0 rfl ?_
  refine j_getR C h0k fl_SR_21 rfl d_SR_step_19 ?_
  refine j_callVi C mv_SR_92 [] [] (tg_9_2 _ h0k) (c_FA_met (tg_9_2 _ h0k) σ3) rfl rfl (by decide) (Nat.le_of_ble_eq_true rfl) d_SR_step_22 ?_
  refine j_if_ne (tgt := 35) C d_SR_step_25 (by decide) (fun c6 => ?_) (fun c6 => ?_)
  · exact j_vret C (fun ρ h => leaf_eq h) d_SR_step_35
  · refine j_iload_n C d_SR_step_28 2 rfl ?_
    refine j_sipush (v := (216 : Int32)) C d_SR_step_29 (by decide) ?_
    refine j_icmp_ne (tgt := 36) C d_SR_step_32 (by decide) (fun c7 => ?_) (fun c7 => ?_)
    · refine j_iload_n C d_SR_step_36 2 rfl ?_
      refine j_sipush (v := (217 : Int32)) C d_SR_step_37 (by decide) ?_
      refine j_icmp_ne (tgt := 48) C d_SR_step_40 (by decide) (fun c8 => ?_) (fun c8 => ?_)
      · refine j_aload_n C d_SR_step_48 0 rfl ?_
        refine j_iload_n C d_SR_step_49 1 rfl ?_
        refine j_callVi C mv_SR_103 [.int (σ k0 6)] [] h0k (c_SR_lengthAt h0k (σ k0 6) σ3) rfl rfl (by decide) (Nat.le_of_ble_eq_true rfl) d_SR_step_50 ?_
        refine j_genIM (fun q9 => ?_)
        refine j_istore_n (lv9 := [(0, .ref (fad F k0)), (1, .int (σ k0 6)), (2, .int q2.1), (3, .int q9.1)]) C d_SR_step_53 rfl rfl (by decide) ?_
        refine j_aload_n C d_SR_step_54 0 rfl ?_
        refine j_getR C h0k fl_SR_21 rfl d_SR_step_55 ?_
        refine j_callVi C mv_SR_92 [] [] (tg_9_2 _ h0k) (c_FA_met (tg_9_2 _ h0k) q9.2) rfl rfl (by decide) (Nat.le_of_ble_eq_true rfl) d_SR_step_58 ?_
        refine j_if_eq (tgt := 65) C d_SR_step_61 (by decide) (fun c10 => ?_) (fun c10 => ?_)
        · refine j_aload_n C d_SR_step_65 0 rfl ?_
          refine j_iload_n C d_SR_step_66 1 rfl ?_
          refine j_iconst (v := (2 : Int32)) C d_SR_step_67 (by decide) ?_
          refine j_iadd C d_SR_step_68 ?_
          refine j_iload_n C d_SR_step_69 3 rfl ?_
          refine j_iadd C d_SR_step_70 ?_
          refine j_put C h0k fl_SR_46 fw_9_6 rfl rfl rfl d_SR_step_71 (fun σ11 => ?_)
          refine j_aload_n C d_SR_step_74 0 rfl ?_
          refine j_iload_n C d_SR_step_75 2 rfl ?_
          refine j_iload_n C d_SR_step_76 1 rfl ?_
          refine j_iload_n C d_SR_step_77 3 rfl ?_
          refine j_bind rfl (fun q13 e12 => ?_)
          refine j_callVi C mv_SR_106 [.int q2.1, .int (σ k0 6), .int q9.1] [] h0k (c_SR_take h0k q2.1 (σ k0 6) q9.1 σ11 e12) rfl rfl (by decide) (Nat.le_of_ble_eq_true rfl) d_SR_step_78 ?_
          refine j_istore (lv9 := [(0, .ref (fad F k0)), (1, .int (σ k0 6)), (2, .int q2.1), (3, .int q9.1), (4, .int q13.1)]) C d_SR_step_81 rfl rfl (by decide) ?_
          refine j_iload C d_SR_step_83 4 rfl ?_
          refine j_if_eq (tgt := 101) C d_SR_step_85 (by decide) (fun c18 => ?_) (fun c18 => ?_)
          · refine j_iload_n C d_SR_step_101 2 rfl ?_
            refine j_sipush (v := (218 : Int32)) C d_SR_step_102 (by decide) ?_
            refine j_icmp_ne (tgt := 112) C d_SR_step_105 (by decide) (fun c21 => ?_) (fun c21 => ?_)
            · exact j_vret C (fun ρ h => leaf_eq h) d_SR_step_112
            · refine j_aload_n C d_SR_step_108 0 rfl ?_
              refine j_bind rfl (fun σ23 e22 => ?_)
              refine j_callVv C mv_SR_114 [] [] h0k (c_SR_data h0k q13.2 e22) rfl rfl (by decide) (Nat.le_of_ble_eq_true rfl) d_SR_step_109 ?_
              exact j_vret C (fun ρ h => leaf_eq h) d_SR_step_112
          · refine j_aload_n C d_SR_step_88 0 rfl ?_
            refine j_getR C h0k fl_SR_21 rfl d_SR_step_89 ?_
            refine j_iload C d_SR_step_92 4 rfl ?_
            refine j_iload_n C d_SR_step_94 1 rfl ?_
            refine j_callVv C mv_SR_110 [.int q13.1, .int (σ k0 6)] [] (tg_9_2 _ h0k) (c_FA_meet (tg_9_2 _ h0k) q13.1 (σ k0 6) q13.2) rfl rfl (by decide) (Nat.le_of_ble_eq_true rfl) d_SR_step_95 ?_
            refine j_genM (fun σ24 => ?_)
            refine j_goto (tgt := 112) C d_SR_step_98 (by decide) ?_
            exact j_vret C (fun ρ h => leaf_eq h) d_SR_step_112
        · exact j_vret C (fun ρ h => leaf_eq h) d_SR_step_64
      · refine j_aload_n C d_SR_step_43 0 rfl ?_
        refine j_callVv C mv_SR_100 [] [] h0k (c_SR_end h0k σ3) rfl rfl (by decide) (Nat.le_of_ble_eq_true rfl) d_SR_step_44 ?_
        refine j_genM (fun σ25 => ?_)
        exact j_vret C (fun ρ h => leaf_eq h) d_SR_step_47
    · exact j_vret C (fun ρ h => leaf_eq h) d_SR_step_35
theorem c_SR_step {l : Launch} {D : va_G} {G : GC} {ad : Nat → Nat} {k0 : Nat} (h0k : Is k0 9) (σ : Mem) {q : Mem} (hq : f_SR_step k0 σ = some q) : Ctr l D G ad ⟨"LineFrames$StreamReader", "step", "()V"⟩ prog_10_method_4_code 5 none 6 143 [.ref (ad k0)] σ (.inl none, q) := ctr_J (cv := (cvO cvM)) (E := f_SR_step k0 σ) (by decide +kernel) (Nat.le_of_ble_eq_true rfl) (by rw [hq]; rfl) (fun F h C => by subst h; exact w_SR_step C h0k σ)
/-! LineFrames$Fault place ()I -/
theorem d_FA_place_0 : decode prog_5_method_6_code 0 = .ok (.aload_n 0, 1) := by decide +kernel
theorem d_FA_place_1 : decode prog_5_method_6_code 1 = .ok (.getfield 13, 3) := by decide +kernel
theorem d_FA_place_4 : decode prog_5_method_6_code 4 = .ok (.ireturn, 1) := by decide +kernel
def f_FA_place (k0 : Nat) (σ : Mem) : Int32 :=
  (σ k0 1)
set_option maxHeartbeats 4000000 in
set_option maxRecDepth 100000 in
theorem w_FA_place {F : Fx} (C : Ctx F prog_5_method_6_code 1 "LineFrames$Fault" (some .int) 0 0) {k0 : Nat} (h0k : Is k0 4) (σ : Mem) : J F 1 (cvI σ) (f_FA_place k0 σ) σ 0 [(0, .ref (fad F k0))] [] := by
  unfold f_FA_place
  refine j_aload_n C d_FA_place_0 0 rfl ?_
  refine j_getI C h0k fl_FA_13 rfl d_FA_place_1 ?_
  exact j_ireti C (fun ρ h => leaf_eq h) d_FA_place_4
theorem c_FA_place {l : Launch} {D : va_G} {G : GC} {ad : Nat → Nat} {k0 : Nat} (h0k : Is k0 4) (σ : Mem) : Ctr l D G ad ⟨"LineFrames$Fault", "place", "()I"⟩ prog_5_method_6_code 1 (some .int) 0 0 [.ref (ad k0)] σ (.inl (some (.int (f_FA_place k0 σ))), σ) := ctr_J (cv := (cvI σ)) (E := f_FA_place k0 σ) (by decide +kernel) (Nat.le_of_ble_eq_true rfl) rfl (fun F h C => by subst h; exact w_FA_place C h0k σ)
/-! LineFrames read ()I -/
theorem d_LF_read_0 : decode prog_1_method_13_code 0 = .ok (.aload_n 0, 1) := by decide +kernel
theorem d_LF_read_1 : decode prog_1_method_13_code 1 = .ok (.getfield 53, 3) := by decide +kernel
theorem d_LF_read_4 : decode prog_1_method_13_code 4 = .ok (.invokevirtual 206, 3) := by decide +kernel
theorem d_LF_read_7 : decode prog_1_method_13_code 7 = .ok (.iconst 0, 1) := by decide +kernel
theorem d_LF_read_8 : decode prog_1_method_13_code 8 = .ok (.istore_n 1, 1) := by decide +kernel
theorem d_LF_read_9 : decode prog_1_method_13_code 9 = .ok (.iload_n 1, 1) := by decide +kernel
theorem d_LF_read_10 : decode prog_1_method_13_code 10 = .ok (.sipush 6000, 3) := by decide +kernel
theorem d_LF_read_13 : decode prog_1_method_13_code 13 = .ok (.if_icmp .gt 26, 3) := by decide +kernel
theorem d_LF_read_16 : decode prog_1_method_13_code 16 = .ok (.aload_n 0, 1) := by decide +kernel
theorem d_LF_read_17 : decode prog_1_method_13_code 17 = .ok (.getfield 53, 3) := by decide +kernel
theorem d_LF_read_20 : decode prog_1_method_13_code 20 = .ok (.invokevirtual 209, 3) := by decide +kernel
theorem d_LF_read_23 : decode prog_1_method_13_code 23 = .ok (.ifCond .ne 16, 3) := by decide +kernel
theorem d_LF_read_26 : decode prog_1_method_13_code 26 = .ok (.aload_n 0, 1) := by decide +kernel
theorem d_LF_read_27 : decode prog_1_method_13_code 27 = .ok (.getfield 53, 3) := by decide +kernel
theorem d_LF_read_30 : decode prog_1_method_13_code 30 = .ok (.invokevirtual 212, 3) := by decide +kernel
theorem d_LF_read_33 : decode prog_1_method_13_code 33 = .ok (.iinc 1 1, 3) := by decide +kernel
theorem d_LF_read_36 : decode prog_1_method_13_code 36 = .ok (.goto (-27), 3) := by decide +kernel
theorem d_LF_read_39 : decode prog_1_method_13_code 39 = .ok (.aload_n 0, 1) := by decide +kernel
theorem d_LF_read_40 : decode prog_1_method_13_code 40 = .ok (.getfield 53, 3) := by decide +kernel
theorem d_LF_read_43 : decode prog_1_method_13_code 43 = .ok (.getfield 215, 3) := by decide +kernel
theorem d_LF_read_46 : decode prog_1_method_13_code 46 = .ok (.ifCond .eq 16, 3) := by decide +kernel
theorem d_LF_read_49 : decode prog_1_method_13_code 49 = .ok (.aload_n 0, 1) := by decide +kernel
theorem d_LF_read_50 : decode prog_1_method_13_code 50 = .ok (.getfield 53, 3) := by decide +kernel
theorem d_LF_read_53 : decode prog_1_method_13_code 53 = .ok (.getfield 219, 3) := by decide +kernel
theorem d_LF_read_56 : decode prog_1_method_13_code 56 = .ok (.getfield 222, 3) := by decide +kernel
theorem d_LF_read_59 : decode prog_1_method_13_code 59 = .ok (.goto 15, 3) := by decide +kernel
theorem d_LF_read_62 : decode prog_1_method_13_code 62 = .ok (.iconst (-1), 1) := by decide +kernel
theorem d_LF_read_63 : decode prog_1_method_13_code 63 = .ok (.aload_n 0, 1) := by decide +kernel
theorem d_LF_read_64 : decode prog_1_method_13_code 64 = .ok (.getfield 53, 3) := by decide +kernel
theorem d_LF_read_67 : decode prog_1_method_13_code 67 = .ok (.getfield 225, 3) := by decide +kernel
theorem d_LF_read_70 : decode prog_1_method_13_code 70 = .ok (.invokevirtual 229, 3) := by decide +kernel
theorem d_LF_read_73 : decode prog_1_method_13_code 73 = .ok (.isub, 1) := by decide +kernel
theorem d_LF_read_74 : decode prog_1_method_13_code 74 = .ok (.ireturn, 1) := by decide +kernel
def L_LF_read_9 (r0 : Nat) : Nat → Int32 → Mem →  Option (Int32 × Mem)
  | 0, _, _ => none
  | n + 1, a1, σ =>
  if (6000 : Int32) < a1 then
  some (a1, σ)
  else
  if (f_SR_ended (wtg r0 5) σ) = 0 then
  (f_SR_step (wtg r0 5) σ).bind fun σ6 =>
  L_LF_read_9 r0 n (a1 + (1 : Int32)) σ6
  else
  some (a1, σ)
def f_LF_read (k0 : Nat) (σ : Mem) : Option (Int32 × Mem) :=
  (f_SR_begin (wtg k0 5) σ).bind fun σ2 =>
  (L_LF_read_9 k0 9999 (0 : Int32) σ2).bind fun q7 =>
  some ((if (q7.2 (wtg k0 5) 7) = 0 then ((-1 : Int32) - (f_FA_place (wtg (wtg k0 5) 2) q7.2)) else (q7.2 (wtg (wtg k0 5) 1) 8)), q7.2)
set_option maxHeartbeats 4000000 in
set_option maxRecDepth 100000 in
theorem wL_LF_read_9 {F : Fx} (C : Ctx F prog_1_method_13_code 2 "LineFrames" (some .int) 7 167) {cv : Option (Int32 × Mem) → Option Rs} (h0 : cv none = none) (r0 : Nat) (hr0 : Is r0 0) (hex : ∀ q : Int32 × Mem, J F 2 cv (some q) q.2 39 [(0, .ref (fad F r0)), (1, .int q.1)] []) : ∀ (n : Nat) (a1 : Int32) (σ : Mem), J F 2 cv (L_LF_read_9 r0 n a1 σ) σ 9 [(0, .ref (fad F r0)), (1, .int a1)] [] := by
  intro n
  induction n with
  | zero => intro a1 σ hE; rw [L_LF_read_9, h0] at hE; cases hE
  | succ n ih =>
    intro a1 σ
    rw [L_LF_read_9]
    refine j_iload_n C d_LF_read_9 1 rfl ?_
    refine j_sipush (v := (6000 : Int32)) C d_LF_read_10 (by decide) ?_
    refine j_icmp_gt (tgt := 39) C d_LF_read_13 (by decide) (fun c3 => ?_) (fun c3 => ?_)
    · exact hex (a1, σ)
    · refine j_aload_n C d_LF_read_16 0 rfl ?_
      refine j_getR C hr0 fl_LF_53 rfl d_LF_read_17 ?_
      refine j_callVi C mv_LF_209 [] [] (tg_0_5 _ hr0) (c_SR_ended (tg_0_5 _ hr0) σ) rfl rfl (by decide) (Nat.le_of_ble_eq_true rfl) d_LF_read_20 ?_
      refine j_if_ne (tgt := 39) C d_LF_read_23 (by decide) (fun c4 => ?_) (fun c4 => ?_)
      · exact hex (a1, σ)
      · refine j_aload_n C d_LF_read_26 0 rfl ?_
        refine j_getR C hr0 fl_LF_53 rfl d_LF_read_27 ?_
        refine j_bind (by exact h0) (fun σ6 e5 => ?_)
        refine j_callVv C mv_LF_212 [] [] (tg_0_5 _ hr0) (c_SR_step (tg_0_5 _ hr0) σ e5) rfl rfl (by decide) (Nat.le_of_ble_eq_true rfl) d_LF_read_30 ?_
        refine j_iinc (v := (a1 + (1 : Int32))) (lv9 := [(0, .ref (fad F r0)), (1, .int (a1 + (1 : Int32)))]) C d_LF_read_33 1 rfl rfl rfl rfl (by decide) ?_
        refine j_goto (tgt := 9) C d_LF_read_36 (by decide) ?_
        exact ih (a1 + (1 : Int32)) σ6
set_option maxHeartbeats 4000000 in
set_option maxRecDepth 100000 in
theorem w_LF_read {F : Fx} (C : Ctx F prog_1_method_13_code 2 "LineFrames" (some .int) 7 167) {k0 : Nat} (h0k : Is k0 0) (σ : Mem) : J F 2 (cvO cvIM) (f_LF_read k0 σ) σ 0 [(0, .ref (fad F k0))] [] := by
  unfold f_LF_read
  refine j_aload_n C d_LF_read_0 0 rfl ?_
  refine j_getR C h0k fl_LF_53 rfl d_LF_read_1 ?_
  refine j_bind rfl (fun σ2 e1 => ?_)
  refine j_callVv C mv_LF_206 [] [] (tg_0_5 _ h0k) (c_SR_begin (tg_0_5 _ h0k) σ e1) rfl rfl (by decide) (Nat.le_of_ble_eq_true rfl) d_LF_read_4 ?_
  refine j_iconst (v := (0 : Int32)) C d_LF_read_7 (by decide) ?_
  refine j_istore_n (lv9 := [(0, .ref (fad F k0)), (1, .int (0 : Int32))]) C d_LF_read_8 rfl rfl (by decide) ?_
  refine j_loop (wL_LF_read_9 C rfl k0 h0k (fun q7 => j_some ?_) 9999 (0 : Int32) σ2)
  refine j_aload_n C d_LF_read_39 0 rfl ?_
  refine j_getR C h0k fl_LF_53 rfl d_LF_read_40 ?_
  refine j_getI C (tg_0_5 _ h0k) fl_LF_215 rfl d_LF_read_43 ?_
  refine d_if_eq (a := ((-1 : Int32) - (f_FA_place (wtg (wtg k0 5) 2) q7.2))) (b := (q7.2 (wtg (wtg k0 5) 1) 8)) (jp := 74) (tgt := 62) C d_LF_read_46 (by decide) (fun c8 k9 => ?_) (fun c8 k9 => ?_) ?_
  · refine j_iconst (v := (-1 : Int32)) C d_LF_read_62 (by decide) ?_
    refine j_aload_n C d_LF_read_63 0 rfl ?_
    refine j_getR C h0k fl_LF_53 rfl d_LF_read_64 ?_
    refine j_getR C (tg_0_5 _ h0k) fl_LF_225 rfl d_LF_read_67 ?_
    refine j_callVi C mv_LF_229 [] [.int (-1 : Int32)] (tg_9_2 _ (tg_0_5 _ h0k)) (c_FA_place (tg_9_2 _ (tg_0_5 _ h0k)) q7.2) rfl rfl (by decide) (Nat.le_of_ble_eq_true rfl) d_LF_read_70 ?_
    refine j_isub C d_LF_read_73 ?_
    exact k9
  · refine j_aload_n C d_LF_read_49 0 rfl ?_
    refine j_getR C h0k fl_LF_53 rfl d_LF_read_50 ?_
    refine j_getR C (tg_0_5 _ h0k) fl_LF_219 rfl d_LF_read_53 ?_
    refine j_getI C (tg_9_1 _ (tg_0_5 _ h0k)) fl_LF_222 rfl d_LF_read_56 ?_
    refine j_goto (tgt := 74) C d_LF_read_59 (by decide) ?_
    exact k9
  exact j_ireti C (fun ρ h => leaf_eq h) d_LF_read_74
theorem c_LF_read {l : Launch} {D : va_G} {G : GC} {ad : Nat → Nat} {k0 : Nat} (h0k : Is k0 0) (σ : Mem) {q : Int32 × Mem} (hq : f_LF_read k0 σ = some q) : Ctr l D G ad ⟨"LineFrames", "read", "()I"⟩ prog_1_method_13_code 2 (some .int) 7 167 [.ref (ad k0)] σ (.inl (some (.int q.1)), q.2) := ctr_J (cv := (cvO cvIM)) (E := f_LF_read k0 σ) (by decide +kernel) (Nat.le_of_ble_eq_true rfl) (by rw [hq]; rfl) (fun F h C => by subst h; exact w_LF_read C h0k σ)
/-! LineFrames$Notes count ()I -/
theorem d_NO_count_0 : decode prog_7_method_2_code 0 = .ok (.aload_n 0, 1) := by decide +kernel
theorem d_NO_count_1 : decode prog_7_method_2_code 1 = .ok (.getfield 26, 3) := by decide +kernel
theorem d_NO_count_4 : decode prog_7_method_2_code 4 = .ok (.ireturn, 1) := by decide +kernel
def f_NO_count (k0 : Nat) (σ : Mem) : Int32 :=
  (σ k0 3)
set_option maxHeartbeats 4000000 in
set_option maxRecDepth 100000 in
theorem w_NO_count {F : Fx} (C : Ctx F prog_7_method_2_code 1 "LineFrames$Notes" (some .int) 0 0) {k0 : Nat} (h0k : Is k0 6) (σ : Mem) : J F 1 (cvI σ) (f_NO_count k0 σ) σ 0 [(0, .ref (fad F k0))] [] := by
  unfold f_NO_count
  refine j_aload_n C d_NO_count_0 0 rfl ?_
  refine j_getI C h0k fl_NO_26 rfl d_NO_count_1 ?_
  exact j_ireti C (fun ρ h => leaf_eq h) d_NO_count_4
theorem c_NO_count {l : Launch} {D : va_G} {G : GC} {ad : Nat → Nat} {k0 : Nat} (h0k : Is k0 6) (σ : Mem) : Ctr l D G ad ⟨"LineFrames$Notes", "count", "()I"⟩ prog_7_method_2_code 1 (some .int) 0 0 [.ref (ad k0)] σ (.inl (some (.int (f_NO_count k0 σ))), σ) := ctr_J (cv := (cvI σ)) (E := f_NO_count k0 σ) (by decide +kernel) (Nat.le_of_ble_eq_true rfl) rfl (fun F h C => by subst h; exact w_NO_count C h0k σ)
/-! LineFrames$Fault number ()I -/
theorem d_FA_number_0 : decode prog_5_method_5_code 0 = .ok (.aload_n 0, 1) := by decide +kernel
theorem d_FA_number_1 : decode prog_5_method_5_code 1 = .ok (.getfield 7, 3) := by decide +kernel
theorem d_FA_number_4 : decode prog_5_method_5_code 4 = .ok (.ireturn, 1) := by decide +kernel
def f_FA_number (k0 : Nat) (σ : Mem) : Int32 :=
  (σ k0 0)
set_option maxHeartbeats 4000000 in
set_option maxRecDepth 100000 in
theorem w_FA_number {F : Fx} (C : Ctx F prog_5_method_5_code 1 "LineFrames$Fault" (some .int) 0 0) {k0 : Nat} (h0k : Is k0 4) (σ : Mem) : J F 1 (cvI σ) (f_FA_number k0 σ) σ 0 [(0, .ref (fad F k0))] [] := by
  unfold f_FA_number
  refine j_aload_n C d_FA_number_0 0 rfl ?_
  refine j_getI C h0k fl_FA_7 rfl d_FA_number_1 ?_
  exact j_ireti C (fun ρ h => leaf_eq h) d_FA_number_4
theorem c_FA_number {l : Launch} {D : va_G} {G : GC} {ad : Nat → Nat} {k0 : Nat} (h0k : Is k0 4) (σ : Mem) : Ctr l D G ad ⟨"LineFrames$Fault", "number", "()I"⟩ prog_5_method_5_code 1 (some .int) 0 0 [.ref (ad k0)] σ (.inl (some (.int (f_FA_number k0 σ))), σ) := ctr_J (cv := (cvI σ)) (E := f_FA_number k0 σ) (by decide +kernel) (Nat.le_of_ble_eq_true rfl) rfl (fun F h C => by subst h; exact w_FA_number C h0k σ)
/-! LineFrames told (I)I -/
theorem d_LF_told_0 : decode prog_1_method_17_code 0 = .ok (.iload_n 1, 1) := by decide +kernel
theorem d_LF_told_1 : decode prog_1_method_17_code 1 = .ok (.tableswitch 114 0 7 #[47, 52, 60, 71, 79, 87, 98, 106], 47) := by decide +kernel
theorem d_LF_told_48 : decode prog_1_method_17_code 48 = .ok (.aload_n 0, 1) := by decide +kernel
theorem d_LF_told_49 : decode prog_1_method_17_code 49 = .ok (.getfield 18, 3) := by decide +kernel
theorem d_LF_told_52 : decode prog_1_method_17_code 52 = .ok (.ireturn, 1) := by decide +kernel
theorem d_LF_told_53 : decode prog_1_method_17_code 53 = .ok (.aload_n 0, 1) := by decide +kernel
theorem d_LF_told_54 : decode prog_1_method_17_code 54 = .ok (.getfield 25, 3) := by decide +kernel
theorem d_LF_told_57 : decode prog_1_method_17_code 57 = .ok (.getfield 222, 3) := by decide +kernel
theorem d_LF_told_60 : decode prog_1_method_17_code 60 = .ok (.ireturn, 1) := by decide +kernel
theorem d_LF_told_61 : decode prog_1_method_17_code 61 = .ok (.aload_n 0, 1) := by decide +kernel
theorem d_LF_told_62 : decode prog_1_method_17_code 62 = .ok (.getfield 25, 3) := by decide +kernel
theorem d_LF_told_65 : decode prog_1_method_17_code 65 = .ok (.getfield 144, 3) := by decide +kernel
theorem d_LF_told_68 : decode prog_1_method_17_code 68 = .ok (.invokevirtual 250, 3) := by decide +kernel
theorem d_LF_told_71 : decode prog_1_method_17_code 71 = .ok (.ireturn, 1) := by decide +kernel
theorem d_LF_told_72 : decode prog_1_method_17_code 72 = .ok (.aload_n 0, 1) := by decide +kernel
theorem d_LF_told_73 : decode prog_1_method_17_code 73 = .ok (.getfield 32, 3) := by decide +kernel
theorem d_LF_told_76 : decode prog_1_method_17_code 76 = .ok (.invokevirtual 183, 3) := by decide +kernel
theorem d_LF_told_79 : decode prog_1_method_17_code 79 = .ok (.ireturn, 1) := by decide +kernel
theorem d_LF_told_80 : decode prog_1_method_17_code 80 = .ok (.aload_n 0, 1) := by decide +kernel
theorem d_LF_told_81 : decode prog_1_method_17_code 81 = .ok (.getfield 36, 3) := by decide +kernel
theorem d_LF_told_84 : decode prog_1_method_17_code 84 = .ok (.invokevirtual 183, 3) := by decide +kernel
theorem d_LF_told_87 : decode prog_1_method_17_code 87 = .ok (.ireturn, 1) := by decide +kernel
theorem d_LF_told_88 : decode prog_1_method_17_code 88 = .ok (.aload_n 0, 1) := by decide +kernel
theorem d_LF_told_89 : decode prog_1_method_17_code 89 = .ok (.getfield 53, 3) := by decide +kernel
theorem d_LF_told_92 : decode prog_1_method_17_code 92 = .ok (.getfield 225, 3) := by decide +kernel
theorem d_LF_told_95 : decode prog_1_method_17_code 95 = .ok (.invokevirtual 261, 3) := by decide +kernel
theorem d_LF_told_98 : decode prog_1_method_17_code 98 = .ok (.ireturn, 1) := by decide +kernel
theorem d_LF_told_99 : decode prog_1_method_17_code 99 = .ok (.aload_n 0, 1) := by decide +kernel
theorem d_LF_told_100 : decode prog_1_method_17_code 100 = .ok (.getfield 53, 3) := by decide +kernel
theorem d_LF_told_103 : decode prog_1_method_17_code 103 = .ok (.getfield 264, 3) := by decide +kernel
theorem d_LF_told_106 : decode prog_1_method_17_code 106 = .ok (.ireturn, 1) := by decide +kernel
theorem d_LF_told_107 : decode prog_1_method_17_code 107 = .ok (.aload_n 0, 1) := by decide +kernel
theorem d_LF_told_108 : decode prog_1_method_17_code 108 = .ok (.getfield 53, 3) := by decide +kernel
theorem d_LF_told_111 : decode prog_1_method_17_code 111 = .ok (.getfield 267, 3) := by decide +kernel
theorem d_LF_told_114 : decode prog_1_method_17_code 114 = .ok (.ireturn, 1) := by decide +kernel
theorem d_LF_told_115 : decode prog_1_method_17_code 115 = .ok (.iconst (-1), 1) := by decide +kernel
theorem d_LF_told_116 : decode prog_1_method_17_code 116 = .ok (.ireturn, 1) := by decide +kernel
def f_LF_told (k0 : Nat) (x1 : Int32) (σ : Mem) : Int32 :=
  if x1 = 0 then
  (σ k0 0)
  else
  if x1 = 1 then
  (σ (wtg k0 1) 8)
  else
  if x1 = 2 then
  (f_NO_count (wtg (wtg k0 1) 4) σ)
  else
  if x1 = 3 then
  (f_BY_size (wtg k0 2) σ)
  else
  if x1 = 4 then
  (f_BY_size (wtg k0 3) σ)
  else
  if x1 = 5 then
  (f_FA_number (wtg (wtg k0 5) 2) σ)
  else
  if x1 = 6 then
  (σ (wtg k0 5) 12)
  else
  if x1 = 7 then
  (σ (wtg k0 5) 13)
  else
  (-1 : Int32)
set_option maxHeartbeats 4000000 in
set_option maxRecDepth 100000 in
theorem w_LF_told {F : Fx} (C : Ctx F prog_1_method_17_code 2 "LineFrames" (some .int) 1 20) {k0 : Nat} (h0k : Is k0 0) (x1 : Int32) (σ : Mem) : J F 2 (cvI σ) (f_LF_told k0 x1 σ) σ 0 [(0, .ref (fad F k0)), (1, .int x1)] [] := by
  unfold f_LF_told
  refine j_iload_n C d_LF_told_0 1 rfl ?_
  refine j_case (fun c1 => ?_) (fun c1 => ?_)
  · refine j_tin (x := x1) (k := 0) (off := 47) (tgt := 48) C d_LF_told_1 c1 (by decide) (by decide) (by decide) (by decide) ?_
    refine j_aload_n C d_LF_told_48 0 rfl ?_
    refine j_getI C h0k fl_LF_18 rfl d_LF_told_49 ?_
    exact j_ireti C (fun ρ h => leaf_eq h) d_LF_told_52
  · refine j_case (fun c2 => ?_) (fun c2 => ?_)
    · refine j_tin (x := x1) (k := 1) (off := 52) (tgt := 53) C d_LF_told_1 c2 (by decide) (by decide) (by decide) (by decide) ?_
      refine j_aload_n C d_LF_told_53 0 rfl ?_
      refine j_getR C h0k fl_LF_25 rfl d_LF_told_54 ?_
      refine j_getI C (tg_0_1 _ h0k) fl_LF_222 rfl d_LF_told_57 ?_
      exact j_ireti C (fun ρ h => leaf_eq h) d_LF_told_60
    · refine j_case (fun c3 => ?_) (fun c3 => ?_)
      · refine j_tin (x := x1) (k := 2) (off := 60) (tgt := 61) C d_LF_told_1 c3 (by decide) (by decide) (by decide) (by decide) ?_
        refine j_aload_n C d_LF_told_61 0 rfl ?_
        refine j_getR C h0k fl_LF_25 rfl d_LF_told_62 ?_
        refine j_getR C (tg_0_1 _ h0k) fl_LF_144 rfl d_LF_told_65 ?_
        refine j_callVi C mv_LF_250 [] [] (tg_7_4 _ (tg_0_1 _ h0k)) (c_NO_count (tg_7_4 _ (tg_0_1 _ h0k)) σ) rfl rfl (by decide) (Nat.le_of_ble_eq_true rfl) d_LF_told_68 ?_
        exact j_ireti C (fun ρ h => leaf_eq h) d_LF_told_71
      · refine j_case (fun c4 => ?_) (fun c4 => ?_)
        · refine j_tin (x := x1) (k := 3) (off := 71) (tgt := 72) C d_LF_told_1 c4 (by decide) (by decide) (by decide) (by decide) ?_
          refine j_aload_n C d_LF_told_72 0 rfl ?_
          refine j_getR C h0k fl_LF_32 rfl d_LF_told_73 ?_
          refine j_callVi C mv_LF_183 [] [] (tg_0_2 _ h0k) (c_BY_size (tg_0_2 _ h0k) σ) rfl rfl (by decide) (Nat.le_of_ble_eq_true rfl) d_LF_told_76 ?_
          exact j_ireti C (fun ρ h => leaf_eq h) d_LF_told_79
        · refine j_case (fun c5 => ?_) (fun c5 => ?_)
          · refine j_tin (x := x1) (k := 4) (off := 79) (tgt := 80) C d_LF_told_1 c5 (by decide) (by decide) (by decide) (by decide) ?_
            refine j_aload_n C d_LF_told_80 0 rfl ?_
            refine j_getR C h0k fl_LF_36 rfl d_LF_told_81 ?_
            refine j_callVi C mv_LF_183 [] [] (tg_0_3 _ h0k) (c_BY_size (tg_0_3 _ h0k) σ) rfl rfl (by decide) (Nat.le_of_ble_eq_true rfl) d_LF_told_84 ?_
            exact j_ireti C (fun ρ h => leaf_eq h) d_LF_told_87
          · refine j_case (fun c6 => ?_) (fun c6 => ?_)
            · refine j_tin (x := x1) (k := 5) (off := 87) (tgt := 88) C d_LF_told_1 c6 (by decide) (by decide) (by decide) (by decide) ?_
              refine j_aload_n C d_LF_told_88 0 rfl ?_
              refine j_getR C h0k fl_LF_53 rfl d_LF_told_89 ?_
              refine j_getR C (tg_0_5 _ h0k) fl_LF_225 rfl d_LF_told_92 ?_
              refine j_callVi C mv_LF_261 [] [] (tg_9_2 _ (tg_0_5 _ h0k)) (c_FA_number (tg_9_2 _ (tg_0_5 _ h0k)) σ) rfl rfl (by decide) (Nat.le_of_ble_eq_true rfl) d_LF_told_95 ?_
              exact j_ireti C (fun ρ h => leaf_eq h) d_LF_told_98
            · refine j_case (fun c7 => ?_) (fun c7 => ?_)
              · refine j_tin (x := x1) (k := 6) (off := 98) (tgt := 99) C d_LF_told_1 c7 (by decide) (by decide) (by decide) (by decide) ?_
                refine j_aload_n C d_LF_told_99 0 rfl ?_
                refine j_getR C h0k fl_LF_53 rfl d_LF_told_100 ?_
                refine j_getI C (tg_0_5 _ h0k) fl_LF_264 rfl d_LF_told_103 ?_
                exact j_ireti C (fun ρ h => leaf_eq h) d_LF_told_106
              · refine j_case (fun c8 => ?_) (fun c8 => ?_)
                · refine j_tin (x := x1) (k := 7) (off := 106) (tgt := 107) C d_LF_told_1 c8 (by decide) (by decide) (by decide) (by decide) ?_
                  refine j_aload_n C d_LF_told_107 0 rfl ?_
                  refine j_getR C h0k fl_LF_53 rfl d_LF_told_108 ?_
                  refine j_getI C (tg_0_5 _ h0k) fl_LF_267 rfl d_LF_told_111 ?_
                  exact j_ireti C (fun ρ h => leaf_eq h) d_LF_told_114
                · refine j_tout (tgt := 115) C d_LF_told_1 (by decide) (sw_out8 c1 c2 c3 c4 c5 c6 c7 c8) ?_
                  refine j_iconst (v := (-1 : Int32)) C d_LF_told_115 (by decide) ?_
                  exact j_ireti C (fun ρ h => leaf_eq h) d_LF_told_116
theorem c_LF_told {l : Launch} {D : va_G} {G : GC} {ad : Nat → Nat} {k0 : Nat} (h0k : Is k0 0) (x1 : Int32) (σ : Mem) : Ctr l D G ad ⟨"LineFrames", "told", "(I)I"⟩ prog_1_method_17_code 2 (some .int) 1 20 [.ref (ad k0), .int x1] σ (.inl (some (.int (f_LF_told k0 x1 σ))), σ) := ctr_J (cv := (cvI σ)) (E := f_LF_told k0 x1 σ) (by decide +kernel) (Nat.le_of_ble_eq_true rfl) rfl (fun F h C => by subst h; exact w_LF_told C h0k x1 σ)
/-! LineFrames$Bytes clear ()V -/
theorem d_BY_clear_0 : decode prog_4_method_10_code 0 = .ok (.aload_n 0, 1) := by decide +kernel
theorem d_BY_clear_1 : decode prog_4_method_10_code 1 = .ok (.iconst 0, 1) := by decide +kernel
theorem d_BY_clear_2 : decode prog_4_method_10_code 2 = .ok (.putfield 15, 3) := by decide +kernel
theorem d_BY_clear_5 : decode prog_4_method_10_code 5 = .ok (.return_, 1) := by decide +kernel
def f_BY_clear (k0 : Nat) (σ : Mem) : Mem :=
  lt (mput σ k0 1 (0 : Int32)) fun σ1 =>
  σ1
set_option maxHeartbeats 4000000 in
set_option maxRecDepth 100000 in
theorem w_BY_clear {F : Fx} (C : Ctx F prog_4_method_10_code 1 "LineFrames$Bytes" none 0 0) {k0 : Nat} (h0k : Is k0 3) (σ : Mem) : J F 1 cvM (f_BY_clear k0 σ) σ 0 [(0, .ref (fad F k0))] [] := by
  unfold f_BY_clear
  refine j_aload_n C d_BY_clear_0 0 rfl ?_
  refine j_iconst (v := (0 : Int32)) C d_BY_clear_1 (by decide) ?_
  refine j_put C h0k fl_BY_15 fw_3_1 rfl rfl rfl d_BY_clear_2 (fun σ1 => ?_)
  exact j_vret C (fun ρ h => leaf_eq h) d_BY_clear_5
theorem c_BY_clear {l : Launch} {D : va_G} {G : GC} {ad : Nat → Nat} {k0 : Nat} (h0k : Is k0 3) (σ : Mem) : Ctr l D G ad ⟨"LineFrames$Bytes", "clear", "()V"⟩ prog_4_method_10_code 1 none 0 0 [.ref (ad k0)] σ (.inl none, (f_BY_clear k0 σ)) := ctr_J (cv := cvM) (E := f_BY_clear k0 σ) (by decide +kernel) (Nat.le_of_ble_eq_true rfl) rfl (fun F h C => by subst h; exact w_BY_clear C h0k σ)
/-! LineFrames drop ()V -/
theorem d_LF_drop_0 : decode prog_1_method_18_code 0 = .ok (.aload_n 0, 1) := by decide +kernel
theorem d_LF_drop_1 : decode prog_1_method_18_code 1 = .ok (.getfield 36, 3) := by decide +kernel
theorem d_LF_drop_4 : decode prog_1_method_18_code 4 = .ok (.invokevirtual 270, 3) := by decide +kernel
theorem d_LF_drop_7 : decode prog_1_method_18_code 7 = .ok (.return_, 1) := by decide +kernel
def f_LF_drop (k0 : Nat) (σ : Mem) : Mem :=
  lt (f_BY_clear (wtg k0 3) σ) fun σ1 =>
  σ1
set_option maxHeartbeats 4000000 in
set_option maxRecDepth 100000 in
theorem w_LF_drop {F : Fx} (C : Ctx F prog_1_method_18_code 1 "LineFrames" none 1 20) {k0 : Nat} (h0k : Is k0 0) (σ : Mem) : J F 1 cvM (f_LF_drop k0 σ) σ 0 [(0, .ref (fad F k0))] [] := by
  unfold f_LF_drop
  refine j_aload_n C d_LF_drop_0 0 rfl ?_
  refine j_getR C h0k fl_LF_36 rfl d_LF_drop_1 ?_
  refine j_callVv C mv_LF_270 [] [] (tg_0_3 _ h0k) (c_BY_clear (tg_0_3 _ h0k) σ) rfl rfl (by decide) (Nat.le_of_ble_eq_true rfl) d_LF_drop_4 ?_
  refine j_genM (fun σ1 => ?_)
  exact j_vret C (fun ρ h => leaf_eq h) d_LF_drop_7
theorem c_LF_drop {l : Launch} {D : va_G} {G : GC} {ad : Nat → Nat} {k0 : Nat} (h0k : Is k0 0) (σ : Mem) : Ctr l D G ad ⟨"LineFrames", "drop", "()V"⟩ prog_1_method_18_code 1 none 1 20 [.ref (ad k0)] σ (.inl none, (f_LF_drop k0 σ)) := ctr_J (cv := cvM) (E := f_LF_drop k0 σ) (by decide +kernel) (Nat.le_of_ble_eq_true rfl) rfl (fun F h C => by subst h; exact w_LF_drop C h0k σ)
