/-! LineFrames$BitSource close ()V -/
theorem d_BO_close_0 : decode prog_3_method_5_code 0 = .ok (.aload_n 0, 1) := by decide +kernel
theorem d_BO_close_1 : decode prog_3_method_5_code 1 = .ok (.getfield 15, 3) := by decide +kernel
theorem d_BO_close_4 : decode prog_3_method_5_code 4 = .ok (.iconst 1, 1) := by decide +kernel
theorem d_BO_close_5 : decode prog_3_method_5_code 5 = .ok (.aload_n 0, 1) := by decide +kernel
theorem d_BO_close_6 : decode prog_3_method_5_code 6 = .ok (.getfield 18, 3) := by decide +kernel
theorem d_BO_close_9 : decode prog_3_method_5_code 9 = .ok (.ishl, 1) := by decide +kernel
theorem d_BO_close_10 : decode prog_3_method_5_code 10 = .ok (.iconst 1, 1) := by decide +kernel
theorem d_BO_close_11 : decode prog_3_method_5_code 11 = .ok (.isub, 1) := by decide +kernel
theorem d_BO_close_12 : decode prog_3_method_5_code 12 = .ok (.iand, 1) := by decide +kernel
theorem d_BO_close_13 : decode prog_3_method_5_code 13 = .ok (.istore_n 1, 1) := by decide +kernel
theorem d_BO_close_14 : decode prog_3_method_5_code 14 = .ok (.iload_n 1, 1) := by decide +kernel
theorem d_BO_close_15 : decode prog_3_method_5_code 15 = .ok (.ifCond .eq 21, 3) := by decide +kernel
theorem d_BO_close_18 : decode prog_3_method_5_code 18 = .ok (.aload_n 0, 1) := by decide +kernel
theorem d_BO_close_19 : decode prog_3_method_5_code 19 = .ok (.getfield 25, 3) := by decide +kernel
theorem d_BO_close_22 : decode prog_3_method_5_code 22 = .ok (.bipush 7, 2) := by decide +kernel
theorem d_BO_close_24 : decode prog_3_method_5_code 24 = .ok (.aload_n 0, 1) := by decide +kernel
theorem d_BO_close_25 : decode prog_3_method_5_code 25 = .ok (.getfield 9, 3) := by decide +kernel
theorem d_BO_close_28 : decode prog_3_method_5_code 28 = .ok (.iconst 1, 1) := by decide +kernel
theorem d_BO_close_29 : decode prog_3_method_5_code 29 = .ok (.isub, 1) := by decide +kernel
theorem d_BO_close_30 : decode prog_3_method_5_code 30 = .ok (.invokevirtual 33, 3) := by decide +kernel
theorem d_BO_close_33 : decode prog_3_method_5_code 33 = .ok (.goto 105, 3) := by decide +kernel
theorem d_BO_close_36 : decode prog_3_method_5_code 36 = .ok (.aload_n 0, 1) := by decide +kernel
theorem d_BO_close_37 : decode prog_3_method_5_code 37 = .ok (.getfield 15, 3) := by decide +kernel
theorem d_BO_close_40 : decode prog_3_method_5_code 40 = .ok (.sipush 255, 3) := by decide +kernel
theorem d_BO_close_43 : decode prog_3_method_5_code 43 = .ok (.if_icmp .ne 35, 3) := by decide +kernel
theorem d_BO_close_46 : decode prog_3_method_5_code 46 = .ok (.aload_n 0, 1) := by decide +kernel
theorem d_BO_close_47 : decode prog_3_method_5_code 47 = .ok (.getfield 21, 3) := by decide +kernel
theorem d_BO_close_50 : decode prog_3_method_5_code 50 = .ok (.aload_n 0, 1) := by decide +kernel
theorem d_BO_close_51 : decode prog_3_method_5_code 51 = .ok (.getfield 9, 3) := by decide +kernel
theorem d_BO_close_54 : decode prog_3_method_5_code 54 = .ok (.invokevirtual 39, 3) := by decide +kernel
theorem d_BO_close_57 : decode prog_3_method_5_code 57 = .ok (.ifCond .ne 21, 3) := by decide +kernel
theorem d_BO_close_60 : decode prog_3_method_5_code 60 = .ok (.aload_n 0, 1) := by decide +kernel
theorem d_BO_close_61 : decode prog_3_method_5_code 61 = .ok (.getfield 25, 3) := by decide +kernel
theorem d_BO_close_64 : decode prog_3_method_5_code 64 = .ok (.iconst 1, 1) := by decide +kernel
theorem d_BO_close_65 : decode prog_3_method_5_code 65 = .ok (.aload_n 0, 1) := by decide +kernel
theorem d_BO_close_66 : decode prog_3_method_5_code 66 = .ok (.getfield 21, 3) := by decide +kernel
theorem d_BO_close_69 : decode prog_3_method_5_code 69 = .ok (.invokevirtual 45, 3) := by decide +kernel
theorem d_BO_close_72 : decode prog_3_method_5_code 72 = .ok (.invokevirtual 33, 3) := by decide +kernel
theorem d_BO_close_75 : decode prog_3_method_5_code 75 = .ok (.goto 63, 3) := by decide +kernel
theorem d_BO_close_78 : decode prog_3_method_5_code 78 = .ok (.aload_n 0, 1) := by decide +kernel
theorem d_BO_close_79 : decode prog_3_method_5_code 79 = .ok (.getfield 15, 3) := by decide +kernel
theorem d_BO_close_82 : decode prog_3_method_5_code 82 = .ok (.sipush 255, 3) := by decide +kernel
theorem d_BO_close_85 : decode prog_3_method_5_code 85 = .ok (.if_icmp .ne 33, 3) := by decide +kernel
theorem d_BO_close_88 : decode prog_3_method_5_code 88 = .ok (.aload_n 0, 1) := by decide +kernel
theorem d_BO_close_89 : decode prog_3_method_5_code 89 = .ok (.getfield 21, 3) := by decide +kernel
theorem d_BO_close_92 : decode prog_3_method_5_code 92 = .ok (.aload_n 0, 1) := by decide +kernel
theorem d_BO_close_93 : decode prog_3_method_5_code 93 = .ok (.getfield 9, 3) := by decide +kernel
theorem d_BO_close_96 : decode prog_3_method_5_code 96 = .ok (.invokevirtual 49, 3) := by decide +kernel
theorem d_BO_close_99 : decode prog_3_method_5_code 99 = .ok (.ifCond .eq 19, 3) := by decide +kernel
theorem d_BO_close_102 : decode prog_3_method_5_code 102 = .ok (.aload_n 0, 1) := by decide +kernel
theorem d_BO_close_103 : decode prog_3_method_5_code 103 = .ok (.getfield 25, 3) := by decide +kernel
theorem d_BO_close_106 : decode prog_3_method_5_code 106 = .ok (.bipush 7, 2) := by decide +kernel
theorem d_BO_close_108 : decode prog_3_method_5_code 108 = .ok (.aload_n 0, 1) := by decide +kernel
theorem d_BO_close_109 : decode prog_3_method_5_code 109 = .ok (.getfield 9, 3) := by decide +kernel
theorem d_BO_close_112 : decode prog_3_method_5_code 112 = .ok (.invokevirtual 33, 3) := by decide +kernel
theorem d_BO_close_115 : decode prog_3_method_5_code 115 = .ok (.goto 23, 3) := by decide +kernel
theorem d_BO_close_118 : decode prog_3_method_5_code 118 = .ok (.aload_n 0, 1) := by decide +kernel
theorem d_BO_close_119 : decode prog_3_method_5_code 119 = .ok (.getfield 15, 3) := by decide +kernel
theorem d_BO_close_122 : decode prog_3_method_5_code 122 = .ok (.sipush 255, 3) := by decide +kernel
theorem d_BO_close_125 : decode prog_3_method_5_code 125 = .ok (.if_icmp .ne 13, 3) := by decide +kernel
theorem d_BO_close_128 : decode prog_3_method_5_code 128 = .ok (.aload_n 0, 1) := by decide +kernel
theorem d_BO_close_129 : decode prog_3_method_5_code 129 = .ok (.dup, 1) := by decide +kernel
theorem d_BO_close_130 : decode prog_3_method_5_code 130 = .ok (.getfield 9, 3) := by decide +kernel
theorem d_BO_close_133 : decode prog_3_method_5_code 133 = .ok (.iconst 1, 1) := by decide +kernel
theorem d_BO_close_134 : decode prog_3_method_5_code 134 = .ok (.iadd, 1) := by decide +kernel
theorem d_BO_close_135 : decode prog_3_method_5_code 135 = .ok (.putfield 9, 3) := by decide +kernel
theorem d_BO_close_138 : decode prog_3_method_5_code 138 = .ok (.return_, 1) := by decide +kernel
def f_BO_close (k0 : Nat) (σ : Mem) : Mem :=
  lt ((σ k0 3) &&& (((1 : Int32) <<< ((σ k0 4) &&& 31)) - (1 : Int32))) fun v1 =>
  if v1 = 0 then
  lt (fun  (σ160 : Mem) => 
  lt (fun  (σ202 : Mem) => 
  if (σ202 k0 3) = (255 : Int32) then
  lt (mput σ202 k0 2 ((σ202 k0 2) + (1 : Int32))) fun σ208 =>
  σ208
  else
  σ202) fun K203 =>
  if (σ160 k0 3) = (255 : Int32) then
  if (f_BY_get (wtg k0 0) (σ160 k0 2) σ160) = 0 then
  K203 σ160
  else
  lt (f_FA_meet (wtg k0 1) (7 : Int32) (σ160 k0 2) σ160) fun σ211 =>
  σ211
  else
  K203 σ160) fun K161 =>
  if (σ k0 3) = (255 : Int32) then
  if (f_BY_has (wtg k0 0) (σ k0 2) σ) = 0 then
  lt (f_FA_meet (wtg k0 1) (1 : Int32) (f_BY_size (wtg k0 0) σ) σ) fun σ214 =>
  σ214
  else
  K161 σ
  else
  K161 σ
  else
  lt (f_FA_meet (wtg k0 1) (7 : Int32) ((σ k0 2) - (1 : Int32)) σ) fun σ215 =>
  σ215
set_option maxHeartbeats 4000000 in
set_option maxRecDepth 100000 in
theorem w_BO_close {F : Fx} (C : Ctx F prog_3_method_5_code 2 "LineFrames$BitSource" none 1 22) {k0 : Nat} (h0k : Is k0 2) (σ : Mem) : J F 2 cvM (f_BO_close k0 σ) σ 0 [(0, .ref (fad F k0))] [] := by
  unfold f_BO_close
  refine j_aload_n C d_BO_close_0 0 rfl ?_
  refine j_getI C h0k fl_BO_15 rfl d_BO_close_1 ?_
  refine j_iconst (v := (1 : Int32)) C d_BO_close_4 (by decide) ?_
  refine j_aload_n C d_BO_close_5 0 rfl ?_
  refine j_getI C h0k fl_BO_18 rfl d_BO_close_6 ?_
  refine j_ishl C d_BO_close_9 ?_
  refine j_iconst (v := (1 : Int32)) C d_BO_close_10 (by decide) ?_
  refine j_isub C d_BO_close_11 ?_
  refine j_iand C d_BO_close_12 ?_
  refine j_nm (fun v1 v1_e => ?_)
  refine j_istore_n (lv9 := [(0, .ref (fad F k0)), (1, .int v1)]) C d_BO_close_13 rfl rfl (by decide) ?_
  refine j_iload_n C d_BO_close_14 1 rfl ?_
  refine j_if_eq (tgt := 36) C d_BO_close_15 (by decide) (fun c10 => ?_) (fun c10 => ?_)
  · refine j_aload_n C d_BO_close_36 0 rfl ?_
    refine j_getI C h0k fl_BO_15 rfl d_BO_close_37 ?_
    refine j_sipush (v := (255 : Int32)) C d_BO_close_40 (by decide) ?_
    refine j_join0m 78 (fun _ => [(0, .ref (fad F k0)), (1, .int v1)]) (fun _ => []) (fun σ160 => ?_) (fun K161 H162 => ?_)
    · refine j_aload_n C d_BO_close_78 0 rfl ?_
      refine j_getI C h0k fl_BO_15 rfl d_BO_close_79 ?_
      refine j_sipush (v := (255 : Int32)) C d_BO_close_82 (by decide) ?_
      refine j_join0m 118 (fun _ => [(0, .ref (fad F k0)), (1, .int v1)]) (fun _ => []) (fun σ202 => ?_) (fun K203 H204 => ?_)
      · refine j_aload_n C d_BO_close_118 0 rfl ?_
        refine j_getI C h0k fl_BO_15 rfl d_BO_close_119 ?_
        refine j_sipush (v := (255 : Int32)) C d_BO_close_122 (by decide) ?_
        refine j_icmp_ne (tgt := 138) C d_BO_close_125 (by decide) (fun c207 => ?_) (fun c207 => ?_)
        · exact j_vret C (fun ρ h => leaf_eq h) d_BO_close_138
        · refine j_aload_n C d_BO_close_128 0 rfl ?_
          refine j_dup C d_BO_close_129 rfl ?_
          refine j_getI C h0k fl_BO_9 rfl d_BO_close_130 ?_
          refine j_iconst (v := (1 : Int32)) C d_BO_close_133 (by decide) ?_
          refine j_iadd C d_BO_close_134 ?_
          refine j_put C h0k fl_BO_9 fw_2_2 rfl rfl rfl d_BO_close_135 (fun σ208 => ?_)
          exact j_vret C (fun ρ h => leaf_eq h) d_BO_close_138
      · refine j_icmp_ne (tgt := 118) C d_BO_close_85 (by decide) (fun c209 => ?_) (fun c209 => ?_)
        · exact H204 σ160
        · refine j_aload_n C d_BO_close_88 0 rfl ?_
          refine j_getR C h0k fl_BO_21 rfl d_BO_close_89 ?_
          refine j_aload_n C d_BO_close_92 0 rfl ?_
          refine j_getI C h0k fl_BO_9 rfl d_BO_close_93 ?_
          refine j_callVi C mv_BO_49 [.int (σ160 k0 2)] [] (tg_2_0 _ h0k) (c_BY_get (tg_2_0 _ h0k) (σ160 k0 2) σ160) rfl rfl (by decide) (Nat.le_of_ble_eq_true rfl) d_BO_close_96 ?_
          refine j_if_eq (tgt := 118) C d_BO_close_99 (by decide) (fun c210 => ?_) (fun c210 => ?_)
          · exact H204 σ160
          · refine j_aload_n C d_BO_close_102 0 rfl ?_
            refine j_getR C h0k fl_BO_25 rfl d_BO_close_103 ?_
            refine j_bipush (v := (7 : Int32)) C d_BO_close_106 (by decide) ?_
            refine j_aload_n C d_BO_close_108 0 rfl ?_
            refine j_getI C h0k fl_BO_9 rfl d_BO_close_109 ?_
            refine j_callVv C mv_BO_33 [.int (7 : Int32), .int (σ160 k0 2)] [] (tg_2_1 _ h0k) (c_FA_meet (tg_2_1 _ h0k) (7 : Int32) (σ160 k0 2) σ160) rfl rfl (by decide) (Nat.le_of_ble_eq_true rfl) d_BO_close_112 ?_
            refine j_genM (fun σ211 => ?_)
            refine j_goto (tgt := 138) C d_BO_close_115 (by decide) ?_
            exact j_vret C (fun ρ h => leaf_eq h) d_BO_close_138
    · refine j_icmp_ne (tgt := 78) C d_BO_close_43 (by decide) (fun c212 => ?_) (fun c212 => ?_)
      · exact H162 σ
      · refine j_aload_n C d_BO_close_46 0 rfl ?_
        refine j_getR C h0k fl_BO_21 rfl d_BO_close_47 ?_
        refine j_aload_n C d_BO_close_50 0 rfl ?_
        refine j_getI C h0k fl_BO_9 rfl d_BO_close_51 ?_
        refine j_callVi C mv_BO_39 [.int (σ k0 2)] [] (tg_2_0 _ h0k) (c_BY_has (tg_2_0 _ h0k) (σ k0 2) σ) rfl rfl (by decide) (Nat.le_of_ble_eq_true rfl) d_BO_close_54 ?_
        refine j_if_ne (tgt := 78) C d_BO_close_57 (by decide) (fun c213 => ?_) (fun c213 => ?_)
        · exact H162 σ
        · refine j_aload_n C d_BO_close_60 0 rfl ?_
          refine j_getR C h0k fl_BO_25 rfl d_BO_close_61 ?_
          refine j_iconst (v := (1 : Int32)) C d_BO_close_64 (by decide) ?_
          refine j_aload_n C d_BO_close_65 0 rfl ?_
          refine j_getR C h0k fl_BO_21 rfl d_BO_close_66 ?_
          refine j_callVi C mv_BO_45 [] [.int (1 : Int32), .ref (fad F (wtg k0 1))] (tg_2_0 _ h0k) (c_BY_size (tg_2_0 _ h0k) σ) rfl rfl (by decide) (Nat.le_of_ble_eq_true rfl) d_BO_close_69 ?_
          refine j_callVv C mv_BO_33 [.int (1 : Int32), .int (f_BY_size (wtg k0 0) σ)] [] (tg_2_1 _ h0k) (c_FA_meet (tg_2_1 _ h0k) (1 : Int32) (f_BY_size (wtg k0 0) σ) σ) rfl rfl (by decide) (Nat.le_of_ble_eq_true rfl) d_BO_close_72 ?_
          refine j_genM (fun σ214 => ?_)
          refine j_goto (tgt := 138) C d_BO_close_75 (by decide) ?_
          exact j_vret C (fun ρ h => leaf_eq h) d_BO_close_138
  · refine j_aload_n C d_BO_close_18 0 rfl ?_
    refine j_getR C h0k fl_BO_25 rfl d_BO_close_19 ?_
    refine j_bipush (v := (7 : Int32)) C d_BO_close_22 (by decide) ?_
    refine j_aload_n C d_BO_close_24 0 rfl ?_
    refine j_getI C h0k fl_BO_9 rfl d_BO_close_25 ?_
    refine j_iconst (v := (1 : Int32)) C d_BO_close_28 (by decide) ?_
    refine j_isub C d_BO_close_29 ?_
    refine j_callVv C mv_BO_33 [.int (7 : Int32), .int ((σ k0 2) - (1 : Int32))] [] (tg_2_1 _ h0k) (c_FA_meet (tg_2_1 _ h0k) (7 : Int32) ((σ k0 2) - (1 : Int32)) σ) rfl rfl (by decide) (Nat.le_of_ble_eq_true rfl) d_BO_close_30 ?_
    refine j_genM (fun σ215 => ?_)
    refine j_goto (tgt := 138) C d_BO_close_33 (by decide) ?_
    exact j_vret C (fun ρ h => leaf_eq h) d_BO_close_138
theorem c_BO_close {l : Launch} {D : va_G} {G : GC} {ad : Nat → Nat} {k0 : Nat} (h0k : Is k0 2) (σ : Mem) : Ctr l D G ad ⟨"LineFrames$BitSource", "close", "()V"⟩ prog_3_method_5_code 2 none 1 22 [.ref (ad k0)] σ (.inl none, (f_BO_close k0 σ)) := ctr_J (cv := cvM) (E := f_BO_close k0 σ) (by decide +kernel) (Nat.le_of_ble_eq_true rfl) rfl (fun F h C => by subst h; exact w_BO_close C h0k σ)
/-! LineFrames$BitSource next ()I -/
theorem d_BO_next_0 : decode prog_3_method_3_code 0 = .ok (.aload_n 0, 1) := by decide +kernel
theorem d_BO_next_1 : decode prog_3_method_3_code 1 = .ok (.getfield 9, 3) := by decide +kernel
theorem d_BO_next_4 : decode prog_3_method_3_code 4 = .ok (.ireturn, 1) := by decide +kernel
def f_BO_next (k0 : Nat) (σ : Mem) : Int32 :=
  (σ k0 2)
set_option maxHeartbeats 4000000 in
set_option maxRecDepth 100000 in
theorem w_BO_next {F : Fx} (C : Ctx F prog_3_method_3_code 1 "LineFrames$BitSource" (some .int) 0 0) {k0 : Nat} (h0k : Is k0 2) (σ : Mem) : J F 1 (cvI σ) (f_BO_next k0 σ) σ 0 [(0, .ref (fad F k0))] [] := by
  unfold f_BO_next
  refine j_aload_n C d_BO_next_0 0 rfl ?_
  refine j_getI C h0k fl_BO_9 rfl d_BO_next_1 ?_
  exact j_ireti C (fun ρ h => leaf_eq h) d_BO_next_4
theorem c_BO_next {l : Launch} {D : va_G} {G : GC} {ad : Nat → Nat} {k0 : Nat} (h0k : Is k0 2) (σ : Mem) : Ctr l D G ad ⟨"LineFrames$BitSource", "next", "()I"⟩ prog_3_method_3_code 1 (some .int) 0 0 [.ref (ad k0)] σ (.inl (some (.int (f_BO_next k0 σ))), σ) := ctr_J (cv := (cvI σ)) (E := f_BO_next k0 σ) (by decide +kernel) (Nat.le_of_ble_eq_true rfl) rfl (fun F h C => by subst h; exact w_BO_next C h0k σ)
/-! LineFrames$StreamReader passRestart (I)V -/
theorem d_SR_passRestart_0 : decode prog_10_method_22_code 0 = .ok (.aload_n 0, 1) := by decide +kernel
theorem d_SR_passRestart_1 : decode prog_10_method_22_code 1 = .ok (.getfield 81, 3) := by decide +kernel
theorem d_SR_passRestart_4 : decode prog_10_method_22_code 4 = .ok (.invokevirtual 240, 3) := by decide +kernel
theorem d_SR_passRestart_7 : decode prog_10_method_22_code 7 = .ok (.aload_n 0, 1) := by decide +kernel
theorem d_SR_passRestart_8 : decode prog_10_method_22_code 8 = .ok (.getfield 81, 3) := by decide +kernel
theorem d_SR_passRestart_11 : decode prog_10_method_22_code 11 = .ok (.invokevirtual 246, 3) := by decide +kernel
theorem d_SR_passRestart_14 : decode prog_10_method_22_code 14 = .ok (.istore_n 2, 1) := by decide +kernel
theorem d_SR_passRestart_15 : decode prog_10_method_22_code 15 = .ok (.aload_n 0, 1) := by decide +kernel
theorem d_SR_passRestart_16 : decode prog_10_method_22_code 16 = .ok (.getfield 72, 3) := by decide +kernel
theorem d_SR_passRestart_19 : decode prog_10_method_22_code 19 = .ok (.invokevirtual 117, 3) := by decide +kernel
theorem d_SR_passRestart_22 : decode prog_10_method_22_code 22 = .ok (.iload_n 2, 1) := by decide +kernel
theorem d_SR_passRestart_23 : decode prog_10_method_22_code 23 = .ok (.isub, 1) := by decide +kernel
theorem d_SR_passRestart_24 : decode prog_10_method_22_code 24 = .ok (.iconst 2, 1) := by decide +kernel
theorem d_SR_passRestart_25 : decode prog_10_method_22_code 25 = .ok (.if_icmp .ge 21, 3) := by decide +kernel
theorem d_SR_passRestart_28 : decode prog_10_method_22_code 28 = .ok (.aload_n 0, 1) := by decide +kernel
theorem d_SR_passRestart_29 : decode prog_10_method_22_code 29 = .ok (.getfield 21, 3) := by decide +kernel
theorem d_SR_passRestart_32 : decode prog_10_method_22_code 32 = .ok (.iconst 1, 1) := by decide +kernel
theorem d_SR_passRestart_33 : decode prog_10_method_22_code 33 = .ok (.aload_n 0, 1) := by decide +kernel
theorem d_SR_passRestart_34 : decode prog_10_method_22_code 34 = .ok (.getfield 72, 3) := by decide +kernel
theorem d_SR_passRestart_37 : decode prog_10_method_22_code 37 = .ok (.invokevirtual 117, 3) := by decide +kernel
theorem d_SR_passRestart_40 : decode prog_10_method_22_code 40 = .ok (.invokevirtual 110, 3) := by decide +kernel
theorem d_SR_passRestart_43 : decode prog_10_method_22_code 43 = .ok (.goto 48, 3) := by decide +kernel
theorem d_SR_passRestart_46 : decode prog_10_method_22_code 46 = .ok (.aload_n 0, 1) := by decide +kernel
theorem d_SR_passRestart_47 : decode prog_10_method_22_code 47 = .ok (.getfield 72, 3) := by decide +kernel
theorem d_SR_passRestart_50 : decode prog_10_method_22_code 50 = .ok (.iload_n 2, 1) := by decide +kernel
theorem d_SR_passRestart_51 : decode prog_10_method_22_code 51 = .ok (.invokevirtual 123, 3) := by decide +kernel
theorem d_SR_passRestart_54 : decode prog_10_method_22_code 54 = .ok (.sipush 255, 3) := by decide +kernel
theorem d_SR_passRestart_57 : decode prog_10_method_22_code 57 = .ok (.if_icmp .ne 24, 3) := by decide +kernel
theorem d_SR_passRestart_60 : decode prog_10_method_22_code 60 = .ok (.aload_n 0, 1) := by decide +kernel
theorem d_SR_passRestart_61 : decode prog_10_method_22_code 61 = .ok (.getfield 72, 3) := by decide +kernel
theorem d_SR_passRestart_64 : decode prog_10_method_22_code 64 = .ok (.iload_n 2, 1) := by decide +kernel
theorem d_SR_passRestart_65 : decode prog_10_method_22_code 65 = .ok (.iconst 1, 1) := by decide +kernel
theorem d_SR_passRestart_66 : decode prog_10_method_22_code 66 = .ok (.iadd, 1) := by decide +kernel
theorem d_SR_passRestart_67 : decode prog_10_method_22_code 67 = .ok (.invokevirtual 123, 3) := by decide +kernel
theorem d_SR_passRestart_70 : decode prog_10_method_22_code 70 = .ok (.sipush 208, 3) := by decide +kernel
theorem d_SR_passRestart_73 : decode prog_10_method_22_code 73 = .ok (.iload_n 1, 1) := by decide +kernel
theorem d_SR_passRestart_74 : decode prog_10_method_22_code 74 = .ok (.bipush 8, 2) := by decide +kernel
theorem d_SR_passRestart_76 : decode prog_10_method_22_code 76 = .ok (.irem, 1) := by decide +kernel
theorem d_SR_passRestart_77 : decode prog_10_method_22_code 77 = .ok (.iadd, 1) := by decide +kernel
theorem d_SR_passRestart_78 : decode prog_10_method_22_code 78 = .ok (.if_icmp .eq 13, 3) := by decide +kernel
theorem d_SR_passRestart_81 : decode prog_10_method_22_code 81 = .ok (.aload_n 0, 1) := by decide +kernel
theorem d_SR_passRestart_82 : decode prog_10_method_22_code 82 = .ok (.getfield 21, 3) := by decide +kernel
theorem d_SR_passRestart_85 : decode prog_10_method_22_code 85 = .ok (.bipush 8, 2) := by decide +kernel
theorem d_SR_passRestart_87 : decode prog_10_method_22_code 87 = .ok (.iload_n 2, 1) := by decide +kernel
theorem d_SR_passRestart_88 : decode prog_10_method_22_code 88 = .ok (.invokevirtual 110, 3) := by decide +kernel
theorem d_SR_passRestart_91 : decode prog_10_method_22_code 91 = .ok (.aload_n 0, 1) := by decide +kernel
theorem d_SR_passRestart_92 : decode prog_10_method_22_code 92 = .ok (.getfield 21, 3) := by decide +kernel
theorem d_SR_passRestart_95 : decode prog_10_method_22_code 95 = .ok (.invokevirtual 92, 3) := by decide +kernel
theorem d_SR_passRestart_98 : decode prog_10_method_22_code 98 = .ok (.ifCond .ne 30, 3) := by decide +kernel
theorem d_SR_passRestart_101 : decode prog_10_method_22_code 101 = .ok (.aload_n 0, 1) := by decide +kernel
theorem d_SR_passRestart_102 : decode prog_10_method_22_code 102 = .ok (.dup, 1) := by decide +kernel
theorem d_SR_passRestart_103 : decode prog_10_method_22_code 103 = .ok (.getfield 66, 3) := by decide +kernel
theorem d_SR_passRestart_106 : decode prog_10_method_22_code 106 = .ok (.iconst 1, 1) := by decide +kernel
theorem d_SR_passRestart_107 : decode prog_10_method_22_code 107 = .ok (.iadd, 1) := by decide +kernel
theorem d_SR_passRestart_108 : decode prog_10_method_22_code 108 = .ok (.putfield 66, 3) := by decide +kernel
theorem d_SR_passRestart_111 : decode prog_10_method_22_code 111 = .ok (.aload_n 0, 1) := by decide +kernel
theorem d_SR_passRestart_112 : decode prog_10_method_22_code 112 = .ok (.getfield 34, 3) := by decide +kernel
theorem d_SR_passRestart_115 : decode prog_10_method_22_code 115 = .ok (.invokevirtual 248, 3) := by decide +kernel
theorem d_SR_passRestart_118 : decode prog_10_method_22_code 118 = .ok (.aload_n 0, 1) := by decide +kernel
theorem d_SR_passRestart_119 : decode prog_10_method_22_code 119 = .ok (.getfield 81, 3) := by decide +kernel
theorem d_SR_passRestart_122 : decode prog_10_method_22_code 122 = .ok (.iload_n 2, 1) := by decide +kernel
theorem d_SR_passRestart_123 : decode prog_10_method_22_code 123 = .ok (.iconst 2, 1) := by decide +kernel
theorem d_SR_passRestart_124 : decode prog_10_method_22_code 124 = .ok (.iadd, 1) := by decide +kernel
theorem d_SR_passRestart_125 : decode prog_10_method_22_code 125 = .ok (.invokevirtual 228, 3) := by decide +kernel
theorem d_SR_passRestart_128 : decode prog_10_method_22_code 128 = .ok (.return_, 1) := by decide +kernel
def f_SR_passRestart (k0 : Nat) (x1 : Int32) (σ : Mem) : Option (Mem) :=
  lt (f_BO_close (wtg k0 3) σ) fun σ1 =>
  lt (fun  (σ83 : Mem) => 
  if (f_FA_met (wtg k0 2) σ83) = 0 then
  lt (mput σ83 k0 12 ((σ83 k0 12) + (1 : Int32))) fun σ89 =>
  (f_MD_renew (wtg k0 4) σ89).bind fun σ91 =>
  lt (f_BO_begin (wtg k0 3) ((f_BO_next (wtg k0 3) σ1) + (2 : Int32)) σ91) fun σ92 =>
  some (σ92)
  else
  some (σ83)) fun K84 =>
  if (2 : Int32) ≤ ((f_BY_size (wtg k0 0) σ1) - (f_BO_next (wtg k0 3) σ1)) then
  lt (
  lt (f_FA_meet (wtg k0 2) (8 : Int32) (f_BO_next (wtg k0 3) σ1) σ1) fun σ107 =>
  K84 σ107) fun K105 =>
  if (f_BY_get (wtg k0 0) (f_BO_next (wtg k0 3) σ1) σ1) = (255 : Int32) then
  if (f_BY_get (wtg k0 0) ((f_BO_next (wtg k0 3) σ1) + (1 : Int32)) σ1) = ((208 : Int32) + (x1 - x1 / (8 : Int32) * (8 : Int32))) then
  K84 σ1
  else
  K105
  else
  K105
  else
  lt (f_FA_meet (wtg k0 2) (1 : Int32) (f_BY_size (wtg k0 0) σ1) σ1) fun σ110 =>
  K84 σ110
set_option maxHeartbeats 4000000 in
set_option maxRecDepth 100000 in
theorem w_SR_passRestart {F : Fx} (C : Ctx F prog_10_method_22_code 3 "LineFrames$StreamReader" none 2 43) {k0 : Nat} (h0k : Is k0 9) (x1 : Int32) (σ : Mem) : J F 3 (cvO cvM) (f_SR_passRestart k0 x1 σ) σ 0 [(0, .ref (fad F k0)), (1, .int x1)] [] := by
  unfold f_SR_passRestart
  refine j_aload_n C d_SR_passRestart_0 0 rfl ?_
  refine j_getR C h0k fl_SR_81 rfl d_SR_passRestart_1 ?_
  refine j_callVv C mv_SR_240 [] [] (tg_9_3 _ h0k) (c_BO_close (tg_9_3 _ h0k) σ) rfl rfl (by decide) (Nat.le_of_ble_eq_true rfl) d_SR_passRestart_4 ?_
  refine j_genM (fun σ1 => ?_)
  refine j_aload_n C d_SR_passRestart_7 0 rfl ?_
  refine j_getR C h0k fl_SR_81 rfl d_SR_passRestart_8 ?_
  refine j_callVi C mv_SR_246 [] [] (tg_9_3 _ h0k) (c_BO_next (tg_9_3 _ h0k) σ1) rfl rfl (by decide) (Nat.le_of_ble_eq_true rfl) d_SR_passRestart_11 ?_
  refine j_istore_n (lv9 := [(0, .ref (fad F k0)), (1, .int x1), (2, .int (f_BO_next (wtg k0 3) σ1))]) C d_SR_passRestart_14 rfl rfl (by decide) ?_
  refine j_aload_n C d_SR_passRestart_15 0 rfl ?_
  refine j_getR C h0k fl_SR_72 rfl d_SR_passRestart_16 ?_
  refine j_callVi C mv_SR_117 [] [] (tg_9_0 _ h0k) (c_BY_size (tg_9_0 _ h0k) σ1) rfl rfl (by decide) (Nat.le_of_ble_eq_true rfl) d_SR_passRestart_19 ?_
  refine j_iload_n C d_SR_passRestart_22 2 rfl ?_
  refine j_isub C d_SR_passRestart_23 ?_
  refine j_iconst (v := (2 : Int32)) C d_SR_passRestart_24 (by decide) ?_
  refine j_join0m 91 (fun _ => [(0, .ref (fad F k0)), (1, .int x1), (2, .int (f_BO_next (wtg k0 3) σ1))]) (fun _ => []) (fun σ83 => ?_) (fun K84 H85 => ?_)
  · refine j_aload_n C d_SR_passRestart_91 0 rfl ?_
    refine j_getR C h0k fl_SR_21 rfl d_SR_passRestart_92 ?_
    refine j_callVi C mv_SR_92 [] [] (tg_9_2 _ h0k) (c_FA_met (tg_9_2 _ h0k) σ83) rfl rfl (by decide) (Nat.le_of_ble_eq_true rfl) d_SR_passRestart_95 ?_
    refine j_if_ne (tgt := 128) C d_SR_passRestart_98 (by decide) (fun c88 => ?_) (fun c88 => ?_)
    · exact j_vret C (fun ρ h => leaf_eq h) d_SR_passRestart_128
    · refine j_aload_n C d_SR_passRestart_101 0 rfl ?_
      refine j_dup C d_SR_passRestart_102 rfl ?_
      refine j_getI C h0k fl_SR_66 rfl d_SR_passRestart_103 ?_
      refine j_iconst (v := (1 : Int32)) C d_SR_passRestart_106 (by decide) ?_
      refine j_iadd C d_SR_passRestart_107 ?_
      refine j_put C h0k fl_SR_66 fw_9_12 rfl rfl rfl d_SR_passRestart_108 (fun σ89 => ?_)
      refine j_aload_n C d_SR_passRestart_111 0 rfl ?_
      refine j_getR C h0k fl_SR_34 rfl d_SR_passRestart_112 ?_
      refine j_bind rfl (fun σ91 e90 => ?_)
      refine j_callVv C mv_SR_248 [] [] (tg_9_4 _ h0k) (c_MD_renew (tg_9_4 _ h0k) σ89 e90) rfl rfl (by decide) (Nat.le_of_ble_eq_true rfl) d_SR_passRestart_115 ?_
      refine j_aload_n C d_SR_passRestart_118 0 rfl ?_
      refine j_getR C h0k fl_SR_81 rfl d_SR_passRestart_119 ?_
      refine j_iload_n C d_SR_passRestart_122 2 rfl ?_
      refine j_iconst (v := (2 : Int32)) C d_SR_passRestart_123 (by decide) ?_
      refine j_iadd C d_SR_passRestart_124 ?_
      refine j_callVv C mv_SR_228 [.int ((f_BO_next (wtg k0 3) σ1) + (2 : Int32))] [] (tg_9_3 _ h0k) (c_BO_begin (tg_9_3 _ h0k) ((f_BO_next (wtg k0 3) σ1) + (2 : Int32)) σ91) rfl rfl (by decide) (Nat.le_of_ble_eq_true rfl) d_SR_passRestart_125 ?_
      refine j_genM (fun σ92 => ?_)
      exact j_vret C (fun ρ h => leaf_eq h) d_SR_passRestart_128
  · refine j_icmp_ge (tgt := 46) C d_SR_passRestart_25 (by decide) (fun c93 => ?_) (fun c93 => ?_)
    · refine j_aload_n C d_SR_passRestart_46 0 rfl ?_
      refine j_getR C h0k fl_SR_72 rfl d_SR_passRestart_47 ?_
      refine j_iload_n C d_SR_passRestart_50 2 rfl ?_
      refine j_callVi C mv_SR_123 [.int (f_BO_next (wtg k0 3) σ1)] [] (tg_9_0 _ h0k) (c_BY_get (tg_9_0 _ h0k) (f_BO_next (wtg k0 3) σ1) σ1) rfl rfl (by decide) (Nat.le_of_ble_eq_true rfl) d_SR_passRestart_51 ?_
      refine j_sipush (v := (255 : Int32)) C d_SR_passRestart_54 (by decide) ?_
      refine j_join0 81 ([(0, .ref (fad F k0)), (1, .int x1), (2, .int (f_BO_next (wtg k0 3) σ1))]) ([]) (?_) (fun K105 H106 => ?_)
      · refine j_aload_n C d_SR_passRestart_81 0 rfl ?_
        refine j_getR C h0k fl_SR_21 rfl d_SR_passRestart_82 ?_
        refine j_bipush (v := (8 : Int32)) C d_SR_passRestart_85 (by decide) ?_
        refine j_iload_n C d_SR_passRestart_87 2 rfl ?_
        refine j_callVv C mv_SR_110 [.int (8 : Int32), .int (f_BO_next (wtg k0 3) σ1)] [] (tg_9_2 _ h0k) (c_FA_meet (tg_9_2 _ h0k) (8 : Int32) (f_BO_next (wtg k0 3) σ1) σ1) rfl rfl (by decide) (Nat.le_of_ble_eq_true rfl) d_SR_passRestart_88 ?_
        refine j_genM (fun σ107 => ?_)
        exact H85 σ107
      · refine j_icmp_ne (tgt := 81) C d_SR_passRestart_57 (by decide) (fun c108 => ?_) (fun c108 => ?_)
        · exact H106
        · refine j_aload_n C d_SR_passRestart_60 0 rfl ?_
          refine j_getR C h0k fl_SR_72 rfl d_SR_passRestart_61 ?_
          refine j_iload_n C d_SR_passRestart_64 2 rfl ?_
          refine j_iconst (v := (1 : Int32)) C d_SR_passRestart_65 (by decide) ?_
          refine j_iadd C d_SR_passRestart_66 ?_
          refine j_callVi C mv_SR_123 [.int ((f_BO_next (wtg k0 3) σ1) + (1 : Int32))] [] (tg_9_0 _ h0k) (c_BY_get (tg_9_0 _ h0k) ((f_BO_next (wtg k0 3) σ1) + (1 : Int32)) σ1) rfl rfl (by decide) (Nat.le_of_ble_eq_true rfl) d_SR_passRestart_67 ?_
          refine j_sipush (v := (208 : Int32)) C d_SR_passRestart_70 (by decide) ?_
          refine j_iload_n C d_SR_passRestart_73 1 rfl ?_
          refine j_bipush (v := (8 : Int32)) C d_SR_passRestart_74 (by decide) ?_
          refine j_irem C d_SR_passRestart_76 (by decide) ?_
          refine j_iadd C d_SR_passRestart_77 ?_
          refine j_icmp_eq (tgt := 91) C d_SR_passRestart_78 (by decide) (fun c109 => ?_) (fun c109 => ?_)
          · exact H85 σ1
          · exact H106
    · refine j_aload_n C d_SR_passRestart_28 0 rfl ?_
      refine j_getR C h0k fl_SR_21 rfl d_SR_passRestart_29 ?_
      refine j_iconst (v := (1 : Int32)) C d_SR_passRestart_32 (by decide) ?_
      refine j_aload_n C d_SR_passRestart_33 0 rfl ?_
      refine j_getR C h0k fl_SR_72 rfl d_SR_passRestart_34 ?_
      refine j_callVi C mv_SR_117 [] [.int (1 : Int32), .ref (fad F (wtg k0 2))] (tg_9_0 _ h0k) (c_BY_size (tg_9_0 _ h0k) σ1) rfl rfl (by decide) (Nat.le_of_ble_eq_true rfl) d_SR_passRestart_37 ?_
      refine j_callVv C mv_SR_110 [.int (1 : Int32), .int (f_BY_size (wtg k0 0) σ1)] [] (tg_9_2 _ h0k) (c_FA_meet (tg_9_2 _ h0k) (1 : Int32) (f_BY_size (wtg k0 0) σ1) σ1) rfl rfl (by decide) (Nat.le_of_ble_eq_true rfl) d_SR_passRestart_40 ?_
      refine j_genM (fun σ110 => ?_)
      refine j_goto (tgt := 91) C d_SR_passRestart_43 (by decide) ?_
      exact H85 σ110
theorem c_SR_passRestart {l : Launch} {D : va_G} {G : GC} {ad : Nat → Nat} {k0 : Nat} (h0k : Is k0 9) (x1 : Int32) (σ : Mem) {q : Mem} (hq : f_SR_passRestart k0 x1 σ = some q) : Ctr l D G ad ⟨"LineFrames$StreamReader", "passRestart", "(I)V"⟩ prog_10_method_22_code 3 none 2 43 [.ref (ad k0), .int x1] σ (.inl none, q) := ctr_J (cv := (cvO cvM)) (E := f_SR_passRestart k0 x1 σ) (by decide +kernel) (Nat.le_of_ble_eq_true rfl) (by rw [hq]; rfl) (fun F h C => by subst h; exact w_SR_passRestart C h0k x1 σ)
/-! LineFrames placeOf (III)I -/
theorem d_LF_placeOf_0 : decode prog_1_method_22_code 0 = .ok (.iload_n 0, 1) := by decide +kernel
theorem d_LF_placeOf_1 : decode prog_1_method_22_code 1 = .ok (.sipush 144, 3) := by decide +kernel
theorem d_LF_placeOf_4 : decode prog_1_method_22_code 4 = .ok (.imul, 1) := by decide +kernel
theorem d_LF_placeOf_5 : decode prog_1_method_22_code 5 = .ok (.iload_n 2, 1) := by decide +kernel
theorem d_LF_placeOf_6 : decode prog_1_method_22_code 6 = .ok (.bipush 12, 2) := by decide +kernel
theorem d_LF_placeOf_8 : decode prog_1_method_22_code 8 = .ok (.imul, 1) := by decide +kernel
theorem d_LF_placeOf_9 : decode prog_1_method_22_code 9 = .ok (.iadd, 1) := by decide +kernel
theorem d_LF_placeOf_10 : decode prog_1_method_22_code 10 = .ok (.iload_n 1, 1) := by decide +kernel
theorem d_LF_placeOf_11 : decode prog_1_method_22_code 11 = .ok (.iadd, 1) := by decide +kernel
theorem d_LF_placeOf_12 : decode prog_1_method_22_code 12 = .ok (.ireturn, 1) := by decide +kernel
def f_LF_placeOf (x0 : Int32) (x1 : Int32) (x2 : Int32) (σ : Mem) : Int32 :=
  (((x0 * (144 : Int32)) + (x2 * (12 : Int32))) + x1)
set_option maxHeartbeats 4000000 in
set_option maxRecDepth 100000 in
theorem w_LF_placeOf {F : Fx} (C : Ctx F prog_1_method_22_code 3 "LineFrames" (some .int) 0 0) (x0 : Int32) (x1 : Int32) (x2 : Int32) (σ : Mem) : J F 3 (cvI σ) (f_LF_placeOf x0 x1 x2 σ) σ 0 [(0, .int x0), (1, .int x1), (2, .int x2)] [] := by
  unfold f_LF_placeOf
  refine j_iload_n C d_LF_placeOf_0 0 rfl ?_
  refine j_sipush (v := (144 : Int32)) C d_LF_placeOf_1 (by decide) ?_
  refine j_imul C d_LF_placeOf_4 ?_
  refine j_iload_n C d_LF_placeOf_5 2 rfl ?_
  refine j_bipush (v := (12 : Int32)) C d_LF_placeOf_6 (by decide) ?_
  refine j_imul C d_LF_placeOf_8 ?_
  refine j_iadd C d_LF_placeOf_9 ?_
  refine j_iload_n C d_LF_placeOf_10 1 rfl ?_
  refine j_iadd C d_LF_placeOf_11 ?_
  exact j_ireti C (fun ρ h => leaf_eq h) d_LF_placeOf_12
theorem c_LF_placeOf {l : Launch} {D : va_G} {G : GC} {ad : Nat → Nat} (x0 : Int32) (x1 : Int32) (x2 : Int32) (σ : Mem) : Ctr l D G ad ⟨"LineFrames", "placeOf", "(III)I"⟩ prog_1_method_22_code 3 (some .int) 0 0 [.int x0, .int x1, .int x2] σ (.inl (some (.int (f_LF_placeOf x0 x1 x2 σ))), σ) := ctr_J (cv := (cvI σ)) (E := f_LF_placeOf x0 x1 x2 σ) (by decide +kernel) (Nat.le_of_ble_eq_true rfl) rfl (fun F h C => by subst h; exact w_LF_placeOf C x0 x1 x2 σ)
/-! LineFrames$Model foretell (IIIZ)I -/
theorem d_MD_foretell_0 : decode prog_6_method_4_code 0 = .ok (.iload_n 1, 1) := by decide +kernel
theorem d_MD_foretell_1 : decode prog_6_method_4_code 1 = .ok (.iload_n 2, 1) := by decide +kernel
theorem d_MD_foretell_2 : decode prog_6_method_4_code 2 = .ok (.iload_n 3, 1) := by decide +kernel
theorem d_MD_foretell_3 : decode prog_6_method_4_code 3 = .ok (.invokestatic 66, 3) := by decide +kernel
theorem d_MD_foretell_6 : decode prog_6_method_4_code 6 = .ok (.istore 5, 2) := by decide +kernel
theorem d_MD_foretell_8 : decode prog_6_method_4_code 8 = .ok (.iload 4, 2) := by decide +kernel
theorem d_MD_foretell_10 : decode prog_6_method_4_code 10 = .ok (.ifCond .eq 7, 3) := by decide +kernel
theorem d_MD_foretell_13 : decode prog_6_method_4_code 13 = .ok (.iconst 0, 1) := by decide +kernel
theorem d_MD_foretell_14 : decode prog_6_method_4_code 14 = .ok (.goto 15, 3) := by decide +kernel
theorem d_MD_foretell_17 : decode prog_6_method_4_code 17 = .ok (.aload_n 0, 1) := by decide +kernel
theorem d_MD_foretell_18 : decode prog_6_method_4_code 18 = .ok (.getfield 42, 3) := by decide +kernel
theorem d_MD_foretell_21 : decode prog_6_method_4_code 21 = .ok (.iload 5, 2) := by decide +kernel
theorem d_MD_foretell_23 : decode prog_6_method_4_code 23 = .ok (.bipush 12, 2) := by decide +kernel
theorem d_MD_foretell_25 : decode prog_6_method_4_code 25 = .ok (.isub, 1) := by decide +kernel
theorem d_MD_foretell_26 : decode prog_6_method_4_code 26 = .ok (.invokevirtual 57, 3) := by decide +kernel
theorem d_MD_foretell_29 : decode prog_6_method_4_code 29 = .ok (.istore 6, 2) := by decide +kernel
theorem d_MD_foretell_31 : decode prog_6_method_4_code 31 = .ok (.iload_n 2, 1) := by decide +kernel
theorem d_MD_foretell_32 : decode prog_6_method_4_code 32 = .ok (.ifCond .ne 6, 3) := by decide +kernel
theorem d_MD_foretell_35 : decode prog_6_method_4_code 35 = .ok (.iload 6, 2) := by decide +kernel
theorem d_MD_foretell_37 : decode prog_6_method_4_code 37 = .ok (.ireturn, 1) := by decide +kernel
theorem d_MD_foretell_38 : decode prog_6_method_4_code 38 = .ok (.aload_n 0, 1) := by decide +kernel
theorem d_MD_foretell_39 : decode prog_6_method_4_code 39 = .ok (.getfield 42, 3) := by decide +kernel
theorem d_MD_foretell_42 : decode prog_6_method_4_code 42 = .ok (.iload 5, 2) := by decide +kernel
theorem d_MD_foretell_44 : decode prog_6_method_4_code 44 = .ok (.iconst 1, 1) := by decide +kernel
theorem d_MD_foretell_45 : decode prog_6_method_4_code 45 = .ok (.isub, 1) := by decide +kernel
theorem d_MD_foretell_46 : decode prog_6_method_4_code 46 = .ok (.invokevirtual 57, 3) := by decide +kernel
theorem d_MD_foretell_49 : decode prog_6_method_4_code 49 = .ok (.istore 7, 2) := by decide +kernel
theorem d_MD_foretell_51 : decode prog_6_method_4_code 51 = .ok (.iload 4, 2) := by decide +kernel
theorem d_MD_foretell_53 : decode prog_6_method_4_code 53 = .ok (.ifCond .eq 7, 3) := by decide +kernel
theorem d_MD_foretell_56 : decode prog_6_method_4_code 56 = .ok (.iconst 0, 1) := by decide +kernel
theorem d_MD_foretell_57 : decode prog_6_method_4_code 57 = .ok (.goto 17, 3) := by decide +kernel
theorem d_MD_foretell_60 : decode prog_6_method_4_code 60 = .ok (.aload_n 0, 1) := by decide +kernel
theorem d_MD_foretell_61 : decode prog_6_method_4_code 61 = .ok (.getfield 42, 3) := by decide +kernel
theorem d_MD_foretell_64 : decode prog_6_method_4_code 64 = .ok (.iload 5, 2) := by decide +kernel
theorem d_MD_foretell_66 : decode prog_6_method_4_code 66 = .ok (.bipush 12, 2) := by decide +kernel
theorem d_MD_foretell_68 : decode prog_6_method_4_code 68 = .ok (.isub, 1) := by decide +kernel
theorem d_MD_foretell_69 : decode prog_6_method_4_code 69 = .ok (.iconst 1, 1) := by decide +kernel
theorem d_MD_foretell_70 : decode prog_6_method_4_code 70 = .ok (.isub, 1) := by decide +kernel
theorem d_MD_foretell_71 : decode prog_6_method_4_code 71 = .ok (.invokevirtual 57, 3) := by decide +kernel
theorem d_MD_foretell_74 : decode prog_6_method_4_code 74 = .ok (.istore 8, 2) := by decide +kernel
theorem d_MD_foretell_76 : decode prog_6_method_4_code 76 = .ok (.iload 8, 2) := by decide +kernel
theorem d_MD_foretell_78 : decode prog_6_method_4_code 78 = .ok (.iload 7, 2) := by decide +kernel
theorem d_MD_foretell_80 : decode prog_6_method_4_code 80 = .ok (.iload 6, 2) := by decide +kernel
theorem d_MD_foretell_82 : decode prog_6_method_4_code 82 = .ok (.invokestatic 70, 3) := by decide +kernel
theorem d_MD_foretell_85 : decode prog_6_method_4_code 85 = .ok (.if_icmp .lt 11, 3) := by decide +kernel
theorem d_MD_foretell_88 : decode prog_6_method_4_code 88 = .ok (.iload 7, 2) := by decide +kernel
theorem d_MD_foretell_90 : decode prog_6_method_4_code 90 = .ok (.iload 6, 2) := by decide +kernel
theorem d_MD_foretell_92 : decode prog_6_method_4_code 92 = .ok (.invokestatic 76, 3) := by decide +kernel
theorem d_MD_foretell_95 : decode prog_6_method_4_code 95 = .ok (.ireturn, 1) := by decide +kernel
theorem d_MD_foretell_96 : decode prog_6_method_4_code 96 = .ok (.iload 8, 2) := by decide +kernel
theorem d_MD_foretell_98 : decode prog_6_method_4_code 98 = .ok (.iload 7, 2) := by decide +kernel
theorem d_MD_foretell_100 : decode prog_6_method_4_code 100 = .ok (.iload 6, 2) := by decide +kernel
theorem d_MD_foretell_102 : decode prog_6_method_4_code 102 = .ok (.invokestatic 76, 3) := by decide +kernel
theorem d_MD_foretell_105 : decode prog_6_method_4_code 105 = .ok (.if_icmp .gt 11, 3) := by decide +kernel
theorem d_MD_foretell_108 : decode prog_6_method_4_code 108 = .ok (.iload 7, 2) := by decide +kernel
theorem d_MD_foretell_110 : decode prog_6_method_4_code 110 = .ok (.iload 6, 2) := by decide +kernel
theorem d_MD_foretell_112 : decode prog_6_method_4_code 112 = .ok (.invokestatic 70, 3) := by decide +kernel
theorem d_MD_foretell_115 : decode prog_6_method_4_code 115 = .ok (.ireturn, 1) := by decide +kernel
theorem d_MD_foretell_116 : decode prog_6_method_4_code 116 = .ok (.iload 7, 2) := by decide +kernel
theorem d_MD_foretell_118 : decode prog_6_method_4_code 118 = .ok (.iload 6, 2) := by decide +kernel
theorem d_MD_foretell_120 : decode prog_6_method_4_code 120 = .ok (.iadd, 1) := by decide +kernel
theorem d_MD_foretell_121 : decode prog_6_method_4_code 121 = .ok (.iload 8, 2) := by decide +kernel
theorem d_MD_foretell_123 : decode prog_6_method_4_code 123 = .ok (.isub, 1) := by decide +kernel
theorem d_MD_foretell_124 : decode prog_6_method_4_code 124 = .ok (.ireturn, 1) := by decide +kernel
def f_MD_foretell (k0 : Nat) (x1 : Int32) (x2 : Int32) (x3 : Int32) (x4 : Int32) (σ : Mem) : Int32 :=
  lt (if x4 = 0 then (f_RO_get (wtg k0 0) ((f_LF_placeOf x1 x2 x3 σ) - (12 : Int32)) σ) else (0 : Int32)) fun v3 =>
  if x2 = 0 then
  v3
  else
  lt (f_RO_get (wtg k0 0) ((f_LF_placeOf x1 x2 x3 σ) - (1 : Int32)) σ) fun v5 =>
  lt (if x4 = 0 then (f_RO_get (wtg k0 0) (((f_LF_placeOf x1 x2 x3 σ) - (12 : Int32)) - (1 : Int32)) σ) else (0 : Int32)) fun v8 =>
  if v8 < (imax v5 v3) then
  if (imin v5 v3) < v8 then
  ((v5 + v3) - v8)
  else
  (imax v5 v3)
  else
  (imin v5 v3)
set_option maxHeartbeats 4000000 in
set_option maxRecDepth 100000 in
theorem w_MD_foretell {F : Fx} (C : Ctx F prog_6_method_4_code 9 "LineFrames$Model" (some .int) 1 22) {k0 : Nat} (h0k : Is k0 5) (x1 : Int32) (x2 : Int32) (x3 : Int32) (x4 : Int32) (σ : Mem) : J F 9 (cvI σ) (f_MD_foretell k0 x1 x2 x3 x4 σ) σ 0 [(0, .ref (fad F k0)), (1, .int x1), (2, .int x2), (3, .int x3), (4, .int x4)] [] := by
  unfold f_MD_foretell
  refine j_iload_n C d_MD_foretell_0 1 rfl ?_
  refine j_iload_n C d_MD_foretell_1 2 rfl ?_
  refine j_iload_n C d_MD_foretell_2 3 rfl ?_
  refine j_callSi C ms_MD_66 [.int x1, .int x2, .int x3] [] (c_LF_placeOf x1 x2 x3 σ) rfl rfl (by decide) (Nat.le_of_ble_eq_true rfl) d_MD_foretell_3 ?_
  refine j_istore (lv9 := [(0, .ref (fad F k0)), (1, .int x1), (2, .int x2), (3, .int x3), (4, .int x4), (5, .int (f_LF_placeOf x1 x2 x3 σ))]) C d_MD_foretell_6 rfl rfl (by decide) ?_
  refine j_iload C d_MD_foretell_8 4 rfl ?_
  refine d_if_eq (a := (f_RO_get (wtg k0 0) ((f_LF_placeOf x1 x2 x3 σ) - (12 : Int32)) σ)) (b := (0 : Int32)) (jp := 29) (tgt := 17) C d_MD_foretell_10 (by decide) (fun c1 k2 => ?_) (fun c1 k2 => ?_) ?_
  · refine j_aload_n C d_MD_foretell_17 0 rfl ?_
    refine j_getR C h0k fl_MD_42 rfl d_MD_foretell_18 ?_
    refine j_iload C d_MD_foretell_21 5 rfl ?_
    refine j_bipush (v := (12 : Int32)) C d_MD_foretell_23 (by decide) ?_
    refine j_isub C d_MD_foretell_25 ?_
    refine j_callVi C mv_MD_57 [.int ((f_LF_placeOf x1 x2 x3 σ) - (12 : Int32))] [] (tg_5_0 _ h0k) (c_RO_get (tg_5_0 _ h0k) ((f_LF_placeOf x1 x2 x3 σ) - (12 : Int32)) σ) rfl rfl (by decide) (Nat.le_of_ble_eq_true rfl) d_MD_foretell_26 ?_
    exact k2
  · refine j_iconst (v := (0 : Int32)) C d_MD_foretell_13 (by decide) ?_
    refine j_goto (tgt := 29) C d_MD_foretell_14 (by decide) ?_
    exact k2
  refine j_nm (fun v3 v3_e => ?_)
  refine j_istore (lv9 := [(0, .ref (fad F k0)), (1, .int x1), (2, .int x2), (3, .int x3), (4, .int x4), (5, .int (f_LF_placeOf x1 x2 x3 σ)), (6, .int v3)]) C d_MD_foretell_29 rfl rfl (by decide) ?_
  refine j_iload_n C d_MD_foretell_31 2 rfl ?_
  refine j_if_ne (tgt := 38) C d_MD_foretell_32 (by decide) (fun c4 => ?_) (fun c4 => ?_)
  · refine j_aload_n C d_MD_foretell_38 0 rfl ?_
    refine j_getR C h0k fl_MD_42 rfl d_MD_foretell_39 ?_
    refine j_iload C d_MD_foretell_42 5 rfl ?_
    refine j_iconst (v := (1 : Int32)) C d_MD_foretell_44 (by decide) ?_
    refine j_isub C d_MD_foretell_45 ?_
    refine j_callVi C mv_MD_57 [.int ((f_LF_placeOf x1 x2 x3 σ) - (1 : Int32))] [] (tg_5_0 _ h0k) (c_RO_get (tg_5_0 _ h0k) ((f_LF_placeOf x1 x2 x3 σ) - (1 : Int32)) σ) rfl rfl (by decide) (Nat.le_of_ble_eq_true rfl) d_MD_foretell_46 ?_
    refine j_nm (fun v5 v5_e => ?_)
    refine j_istore (lv9 := [(0, .ref (fad F k0)), (1, .int x1), (2, .int x2), (3, .int x3), (4, .int x4), (5, .int (f_LF_placeOf x1 x2 x3 σ)), (6, .int v3), (7, .int v5)]) C d_MD_foretell_49 rfl rfl (by decide) ?_
    refine j_iload C d_MD_foretell_51 4 rfl ?_
    refine d_if_eq (a := (f_RO_get (wtg k0 0) (((f_LF_placeOf x1 x2 x3 σ) - (12 : Int32)) - (1 : Int32)) σ)) (b := (0 : Int32)) (jp := 74) (tgt := 60) C d_MD_foretell_53 (by decide) (fun c6 k7 => ?_) (fun c6 k7 => ?_) ?_
    · refine j_aload_n C d_MD_foretell_60 0 rfl ?_
      refine j_getR C h0k fl_MD_42 rfl d_MD_foretell_61 ?_
      refine j_iload C d_MD_foretell_64 5 rfl ?_
      refine j_bipush (v := (12 : Int32)) C d_MD_foretell_66 (by decide) ?_
      refine j_isub C d_MD_foretell_68 ?_
      refine j_iconst (v := (1 : Int32)) C d_MD_foretell_69 (by decide) ?_
      refine j_isub C d_MD_foretell_70 ?_
      refine j_callVi C mv_MD_57 [.int (((f_LF_placeOf x1 x2 x3 σ) - (12 : Int32)) - (1 : Int32))] [] (tg_5_0 _ h0k) (c_RO_get (tg_5_0 _ h0k) (((f_LF_placeOf x1 x2 x3 σ) - (12 : Int32)) - (1 : Int32)) σ) rfl rfl (by decide) (Nat.le_of_ble_eq_true rfl) d_MD_foretell_71 ?_
      exact k7
    · refine j_iconst (v := (0 : Int32)) C d_MD_foretell_56 (by decide) ?_
      refine j_goto (tgt := 74) C d_MD_foretell_57 (by decide) ?_
      exact k7
    refine j_nm (fun v8 v8_e => ?_)
    refine j_istore (lv9 := [(0, .ref (fad F k0)), (1, .int x1), (2, .int x2), (3, .int x3), (4, .int x4), (5, .int (f_LF_placeOf x1 x2 x3 σ)), (6, .int v3), (7, .int v5), (8, .int v8)]) C d_MD_foretell_74 rfl rfl (by decide) ?_
    refine j_iload C d_MD_foretell_76 8 rfl ?_
    refine j_iload C d_MD_foretell_78 7 rfl ?_
    refine j_iload C d_MD_foretell_80 6 rfl ?_
    refine j_max C mm_MD_70 ⟨by decide, Nat.le_of_ble_eq_true rfl⟩ d_MD_foretell_82 ?_
    refine j_icmp_lt (tgt := 96) C d_MD_foretell_85 (by decide) (fun c9 => ?_) (fun c9 => ?_)
    · refine j_iload C d_MD_foretell_96 8 rfl ?_
      refine j_iload C d_MD_foretell_98 7 rfl ?_
      refine j_iload C d_MD_foretell_100 6 rfl ?_
      refine j_min C mm_MD_76 ⟨by decide, Nat.le_of_ble_eq_true rfl⟩ d_MD_foretell_102 ?_
      refine j_icmp_gt (tgt := 116) C d_MD_foretell_105 (by decide) (fun c10 => ?_) (fun c10 => ?_)
      · refine j_iload C d_MD_foretell_116 7 rfl ?_
        refine j_iload C d_MD_foretell_118 6 rfl ?_
        refine j_iadd C d_MD_foretell_120 ?_
        refine j_iload C d_MD_foretell_121 8 rfl ?_
        refine j_isub C d_MD_foretell_123 ?_
        exact j_ireti C (fun ρ h => leaf_eq h) d_MD_foretell_124
      · refine j_iload C d_MD_foretell_108 7 rfl ?_
        refine j_iload C d_MD_foretell_110 6 rfl ?_
        refine j_max C mm_MD_70 ⟨by decide, Nat.le_of_ble_eq_true rfl⟩ d_MD_foretell_112 ?_
        exact j_ireti C (fun ρ h => leaf_eq h) d_MD_foretell_115
    · refine j_iload C d_MD_foretell_88 7 rfl ?_
      refine j_iload C d_MD_foretell_90 6 rfl ?_
      refine j_min C mm_MD_76 ⟨by decide, Nat.le_of_ble_eq_true rfl⟩ d_MD_foretell_92 ?_
      exact j_ireti C (fun ρ h => leaf_eq h) d_MD_foretell_95
  · refine j_iload C d_MD_foretell_35 6 rfl ?_
    exact j_ireti C (fun ρ h => leaf_eq h) d_MD_foretell_37
theorem c_MD_foretell {l : Launch} {D : va_G} {G : GC} {ad : Nat → Nat} {k0 : Nat} (h0k : Is k0 5) (x1 : Int32) (x2 : Int32) (x3 : Int32) (x4 : Int32) (σ : Mem) : Ctr l D G ad ⟨"LineFrames$Model", "foretell", "(IIIZ)I"⟩ prog_6_method_4_code 9 (some .int) 1 22 [.ref (ad k0), .int x1, .int x2, .int x3, .int x4] σ (.inl (some (.int (f_MD_foretell k0 x1 x2 x3 x4 σ))), σ) := ctr_J (cv := (cvI σ)) (E := f_MD_foretell k0 x1 x2 x3 x4 σ) (by decide +kernel) (Nat.le_of_ble_eq_true rfl) rfl (fun F h C => by subst h; exact w_MD_foretell C h0k x1 x2 x3 x4 σ)
/-! LineFrames$Model shift (I)I -/
theorem d_MD_shift_0 : decode prog_6_method_5_code 0 = .ok (.aload_n 0, 1) := by decide +kernel
theorem d_MD_shift_1 : decode prog_6_method_5_code 1 = .ok (.getfield 14, 3) := by decide +kernel
theorem d_MD_shift_4 : decode prog_6_method_5_code 4 = .ok (.iload_n 1, 1) := by decide +kernel
theorem d_MD_shift_5 : decode prog_6_method_5_code 5 = .ok (.invokevirtual 57, 3) := by decide +kernel
theorem d_MD_shift_8 : decode prog_6_method_5_code 8 = .ok (.istore_n 2, 1) := by decide +kernel
theorem d_MD_shift_9 : decode prog_6_method_5_code 9 = .ok (.aload_n 0, 1) := by decide +kernel
theorem d_MD_shift_10 : decode prog_6_method_5_code 10 = .ok (.getfield 20, 3) := by decide +kernel
theorem d_MD_shift_13 : decode prog_6_method_5_code 13 = .ok (.iload_n 1, 1) := by decide +kernel
theorem d_MD_shift_14 : decode prog_6_method_5_code 14 = .ok (.invokevirtual 57, 3) := by decide +kernel
theorem d_MD_shift_17 : decode prog_6_method_5_code 17 = .ok (.istore_n 3, 1) := by decide +kernel
theorem d_MD_shift_18 : decode prog_6_method_5_code 18 = .ok (.iconst 0, 1) := by decide +kernel
theorem d_MD_shift_19 : decode prog_6_method_5_code 19 = .ok (.istore 4, 2) := by decide +kernel
theorem d_MD_shift_21 : decode prog_6_method_5_code 21 = .ok (.iload 4, 2) := by decide +kernel
theorem d_MD_shift_23 : decode prog_6_method_5_code 23 = .ok (.bipush 12, 2) := by decide +kernel
theorem d_MD_shift_25 : decode prog_6_method_5_code 25 = .ok (.if_icmp .ge 17, 3) := by decide +kernel
theorem d_MD_shift_28 : decode prog_6_method_5_code 28 = .ok (.iload_n 3, 1) := by decide +kernel
theorem d_MD_shift_29 : decode prog_6_method_5_code 29 = .ok (.iload 4, 2) := by decide +kernel
theorem d_MD_shift_31 : decode prog_6_method_5_code 31 = .ok (.ishl, 1) := by decide +kernel
theorem d_MD_shift_32 : decode prog_6_method_5_code 32 = .ok (.iload_n 2, 1) := by decide +kernel
theorem d_MD_shift_33 : decode prog_6_method_5_code 33 = .ok (.if_icmp .ge 9, 3) := by decide +kernel
theorem d_MD_shift_36 : decode prog_6_method_5_code 36 = .ok (.iinc 4 1, 3) := by decide +kernel
theorem d_MD_shift_39 : decode prog_6_method_5_code 39 = .ok (.goto (-18), 3) := by decide +kernel
theorem d_MD_shift_42 : decode prog_6_method_5_code 42 = .ok (.iload 4, 2) := by decide +kernel
theorem d_MD_shift_44 : decode prog_6_method_5_code 44 = .ok (.ireturn, 1) := by decide +kernel
def L_MD_shift_21 (r0 : Nat) (b1 : Int32) (b2 : Int32) (b3 : Int32) (σ : Mem) : Nat → Int32 →  Option (Int32)
  | 0, _ => none
  | n + 1, a4 =>
  if (12 : Int32) ≤ a4 then
  some a4
  else
  if b2 ≤ (b3 <<< (a4 &&& 31)) then
  some a4
  else
  L_MD_shift_21 r0 b1 b2 b3 σ n (a4 + (1 : Int32))
def f_MD_shift (k0 : Nat) (x1 : Int32) (σ : Mem) : Option (Int32) :=
  (L_MD_shift_21 k0 x1 (f_RO_get (wtg k0 1) x1 σ) (f_RO_get (wtg k0 2) x1 σ) σ 9999 (0 : Int32)).bind fun q3 =>
  some q3
set_option maxHeartbeats 4000000 in
set_option maxRecDepth 100000 in
theorem wL_MD_shift_21 {F : Fx} (C : Ctx F prog_6_method_5_code 5 "LineFrames$Model" (some .int) 1 21) {cv : Option (Int32) → Option Rs} (h0 : cv none = none) (r0 : Nat) (hr0 : Is r0 5) (b1 : Int32) (b2 : Int32) (b3 : Int32) (σ : Mem) (hex : ∀ q : Int32, J F 5 cv (some q) σ 42 [(0, .ref (fad F r0)), (1, .int b1), (2, .int b2), (3, .int b3), (4, .int q)] []) : ∀ (n : Nat) (a4 : Int32), J F 5 cv (L_MD_shift_21 r0 b1 b2 b3 σ n a4) σ 21 [(0, .ref (fad F r0)), (1, .int b1), (2, .int b2), (3, .int b3), (4, .int a4)] [] := by
  intro n
  induction n with
  | zero => intro a4 hE; rw [L_MD_shift_21, h0] at hE; cases hE
  | succ n ih =>
    intro a4
    rw [L_MD_shift_21]
    refine j_iload C d_MD_shift_21 4 rfl ?_
    refine j_bipush (v := (12 : Int32)) C d_MD_shift_23 (by decide) ?_
    refine j_icmp_ge (tgt := 42) C d_MD_shift_25 (by decide) (fun c1 => ?_) (fun c1 => ?_)
    · exact hex a4
    · refine j_iload_n C d_MD_shift_28 3 rfl ?_
      refine j_iload C d_MD_shift_29 4 rfl ?_
      refine j_ishl C d_MD_shift_31 ?_
      refine j_iload_n C d_MD_shift_32 2 rfl ?_
      refine j_icmp_ge (tgt := 42) C d_MD_shift_33 (by decide) (fun c2 => ?_) (fun c2 => ?_)
      · exact hex a4
      · refine j_iinc (v := (a4 + (1 : Int32))) (lv9 := [(0, .ref (fad F r0)), (1, .int b1), (2, .int b2), (3, .int b3), (4, .int (a4 + (1 : Int32)))]) C d_MD_shift_36 4 rfl rfl rfl rfl (by decide) ?_
        refine j_goto (tgt := 21) C d_MD_shift_39 (by decide) ?_
        exact ih (a4 + (1 : Int32))
set_option maxHeartbeats 4000000 in
set_option maxRecDepth 100000 in
theorem w_MD_shift {F : Fx} (C : Ctx F prog_6_method_5_code 5 "LineFrames$Model" (some .int) 1 21) {k0 : Nat} (h0k : Is k0 5) (x1 : Int32) (σ : Mem) : J F 5 (cvO (cvI σ)) (f_MD_shift k0 x1 σ) σ 0 [(0, .ref (fad F k0)), (1, .int x1)] [] := by
  unfold f_MD_shift
  refine j_aload_n C d_MD_shift_0 0 rfl ?_
  refine j_getR C h0k fl_MD_14 rfl d_MD_shift_1 ?_
  refine j_iload_n C d_MD_shift_4 1 rfl ?_
  refine j_callVi C mv_MD_57 [.int x1] [] (tg_5_1 _ h0k) (c_RO_get (tg_5_1 _ h0k) x1 σ) rfl rfl (by decide) (Nat.le_of_ble_eq_true rfl) d_MD_shift_5 ?_
  refine j_istore_n (lv9 := [(0, .ref (fad F k0)), (1, .int x1), (2, .int (f_RO_get (wtg k0 1) x1 σ))]) C d_MD_shift_8 rfl rfl (by decide) ?_
  refine j_aload_n C d_MD_shift_9 0 rfl ?_
  refine j_getR C h0k fl_MD_20 rfl d_MD_shift_10 ?_
  refine j_iload_n C d_MD_shift_13 1 rfl ?_
  refine j_callVi C mv_MD_57 [.int x1] [] (tg_5_2 _ h0k) (c_RO_get (tg_5_2 _ h0k) x1 σ) rfl rfl (by decide) (Nat.le_of_ble_eq_true rfl) d_MD_shift_14 ?_
  refine j_istore_n (lv9 := [(0, .ref (fad F k0)), (1, .int x1), (2, .int (f_RO_get (wtg k0 1) x1 σ)), (3, .int (f_RO_get (wtg k0 2) x1 σ))]) C d_MD_shift_17 rfl rfl (by decide) ?_
  refine j_iconst (v := (0 : Int32)) C d_MD_shift_18 (by decide) ?_
  refine j_istore (lv9 := [(0, .ref (fad F k0)), (1, .int x1), (2, .int (f_RO_get (wtg k0 1) x1 σ)), (3, .int (f_RO_get (wtg k0 2) x1 σ)), (4, .int (0 : Int32))]) C d_MD_shift_19 rfl rfl (by decide) ?_
  refine j_loop (wL_MD_shift_21 C rfl k0 h0k x1 (f_RO_get (wtg k0 1) x1 σ) (f_RO_get (wtg k0 2) x1 σ) σ (fun q3 => j_some ?_) 9999 (0 : Int32))
  refine j_iload C d_MD_shift_42 4 rfl ?_
  exact j_ireti C (fun ρ h => leaf_eq h) d_MD_shift_44
theorem c_MD_shift {l : Launch} {D : va_G} {G : GC} {ad : Nat → Nat} {k0 : Nat} (h0k : Is k0 5) (x1 : Int32) (σ : Mem) {q : Int32} (hq : f_MD_shift k0 x1 σ = some q) : Ctr l D G ad ⟨"LineFrames$Model", "shift", "(I)I"⟩ prog_6_method_5_code 5 (some .int) 1 21 [.ref (ad k0), .int x1] σ (.inl (some (.int q)), σ) := ctr_J (cv := (cvO (cvI σ))) (E := f_MD_shift k0 x1 σ) (by decide +kernel) (Nat.le_of_ble_eq_true rfl) (by rw [hq]; rfl) (fun F h C => by subst h; exact w_MD_shift C h0k x1 σ)
/-! LineFrames$BitSource fetch ()V -/
theorem d_BO_fetch_0 : decode prog_3_method_7_code 0 = .ok (.aload_n 0, 1) := by decide +kernel
theorem d_BO_fetch_1 : decode prog_3_method_7_code 1 = .ok (.getfield 21, 3) := by decide +kernel
theorem d_BO_fetch_4 : decode prog_3_method_7_code 4 = .ok (.aload_n 0, 1) := by decide +kernel
theorem d_BO_fetch_5 : decode prog_3_method_7_code 5 = .ok (.getfield 9, 3) := by decide +kernel
theorem d_BO_fetch_8 : decode prog_3_method_7_code 8 = .ok (.invokevirtual 39, 3) := by decide +kernel
theorem d_BO_fetch_11 : decode prog_3_method_7_code 11 = .ok (.ifCond .ne 19, 3) := by decide +kernel
theorem d_BO_fetch_14 : decode prog_3_method_7_code 14 = .ok (.aload_n 0, 1) := by decide +kernel
theorem d_BO_fetch_15 : decode prog_3_method_7_code 15 = .ok (.getfield 25, 3) := by decide +kernel
theorem d_BO_fetch_18 : decode prog_3_method_7_code 18 = .ok (.iconst 1, 1) := by decide +kernel
theorem d_BO_fetch_19 : decode prog_3_method_7_code 19 = .ok (.aload_n 0, 1) := by decide +kernel
theorem d_BO_fetch_20 : decode prog_3_method_7_code 20 = .ok (.getfield 21, 3) := by decide +kernel
theorem d_BO_fetch_23 : decode prog_3_method_7_code 23 = .ok (.invokevirtual 45, 3) := by decide +kernel
theorem d_BO_fetch_26 : decode prog_3_method_7_code 26 = .ok (.invokevirtual 33, 3) := by decide +kernel
theorem d_BO_fetch_29 : decode prog_3_method_7_code 29 = .ok (.return_, 1) := by decide +kernel
theorem d_BO_fetch_30 : decode prog_3_method_7_code 30 = .ok (.aload_n 0, 1) := by decide +kernel
theorem d_BO_fetch_31 : decode prog_3_method_7_code 31 = .ok (.getfield 21, 3) := by decide +kernel
theorem d_BO_fetch_34 : decode prog_3_method_7_code 34 = .ok (.aload_n 0, 1) := by decide +kernel
theorem d_BO_fetch_35 : decode prog_3_method_7_code 35 = .ok (.getfield 9, 3) := by decide +kernel
theorem d_BO_fetch_38 : decode prog_3_method_7_code 38 = .ok (.invokevirtual 49, 3) := by decide +kernel
theorem d_BO_fetch_41 : decode prog_3_method_7_code 41 = .ok (.istore_n 1, 1) := by decide +kernel
theorem d_BO_fetch_42 : decode prog_3_method_7_code 42 = .ok (.aload_n 0, 1) := by decide +kernel
theorem d_BO_fetch_43 : decode prog_3_method_7_code 43 = .ok (.getfield 15, 3) := by decide +kernel
theorem d_BO_fetch_46 : decode prog_3_method_7_code 46 = .ok (.sipush 255, 3) := by decide +kernel
theorem d_BO_fetch_49 : decode prog_3_method_7_code 49 = .ok (.if_icmp .ne 23, 3) := by decide +kernel
theorem d_BO_fetch_52 : decode prog_3_method_7_code 52 = .ok (.iload_n 1, 1) := by decide +kernel
theorem d_BO_fetch_53 : decode prog_3_method_7_code 53 = .ok (.bipush 127, 2) := by decide +kernel
theorem d_BO_fetch_55 : decode prog_3_method_7_code 55 = .ok (.if_icmp .le 17, 3) := by decide +kernel
theorem d_BO_fetch_58 : decode prog_3_method_7_code 58 = .ok (.aload_n 0, 1) := by decide +kernel
theorem d_BO_fetch_59 : decode prog_3_method_7_code 59 = .ok (.getfield 25, 3) := by decide +kernel
theorem d_BO_fetch_62 : decode prog_3_method_7_code 62 = .ok (.bipush 7, 2) := by decide +kernel
theorem d_BO_fetch_64 : decode prog_3_method_7_code 64 = .ok (.aload_n 0, 1) := by decide +kernel
theorem d_BO_fetch_65 : decode prog_3_method_7_code 65 = .ok (.getfield 9, 3) := by decide +kernel
theorem d_BO_fetch_68 : decode prog_3_method_7_code 68 = .ok (.invokevirtual 33, 3) := by decide +kernel
theorem d_BO_fetch_71 : decode prog_3_method_7_code 71 = .ok (.return_, 1) := by decide +kernel
theorem d_BO_fetch_72 : decode prog_3_method_7_code 72 = .ok (.aload_n 0, 1) := by decide +kernel
theorem d_BO_fetch_73 : decode prog_3_method_7_code 73 = .ok (.aload_n 0, 1) := by decide +kernel
theorem d_BO_fetch_74 : decode prog_3_method_7_code 74 = .ok (.getfield 15, 3) := by decide +kernel
theorem d_BO_fetch_77 : decode prog_3_method_7_code 77 = .ok (.sipush 255, 3) := by decide +kernel
theorem d_BO_fetch_80 : decode prog_3_method_7_code 80 = .ok (.if_icmp .ne 8, 3) := by decide +kernel
theorem d_BO_fetch_83 : decode prog_3_method_7_code 83 = .ok (.bipush 7, 2) := by decide +kernel
theorem d_BO_fetch_85 : decode prog_3_method_7_code 85 = .ok (.goto 5, 3) := by decide +kernel
theorem d_BO_fetch_88 : decode prog_3_method_7_code 88 = .ok (.bipush 8, 2) := by decide +kernel
theorem d_BO_fetch_90 : decode prog_3_method_7_code 90 = .ok (.putfield 18, 3) := by decide +kernel
theorem d_BO_fetch_93 : decode prog_3_method_7_code 93 = .ok (.aload_n 0, 1) := by decide +kernel
theorem d_BO_fetch_94 : decode prog_3_method_7_code 94 = .ok (.iload_n 1, 1) := by decide +kernel
theorem d_BO_fetch_95 : decode prog_3_method_7_code 95 = .ok (.putfield 15, 3) := by decide +kernel
theorem d_BO_fetch_98 : decode prog_3_method_7_code 98 = .ok (.aload_n 0, 1) := by decide +kernel
theorem d_BO_fetch_99 : decode prog_3_method_7_code 99 = .ok (.dup, 1) := by decide +kernel
theorem d_BO_fetch_100 : decode prog_3_method_7_code 100 = .ok (.getfield 9, 3) := by decide +kernel
theorem d_BO_fetch_103 : decode prog_3_method_7_code 103 = .ok (.iconst 1, 1) := by decide +kernel
theorem d_BO_fetch_104 : decode prog_3_method_7_code 104 = .ok (.iadd, 1) := by decide +kernel
theorem d_BO_fetch_105 : decode prog_3_method_7_code 105 = .ok (.putfield 9, 3) := by decide +kernel
theorem d_BO_fetch_108 : decode prog_3_method_7_code 108 = .ok (.return_, 1) := by decide +kernel
def f_BO_fetch (k0 : Nat) (σ : Mem) : Mem :=
  if (f_BY_has (wtg k0 0) (σ k0 2) σ) = 0 then
  lt (f_FA_meet (wtg k0 1) (1 : Int32) (f_BY_size (wtg k0 0) σ) σ) fun σ80 =>
  σ80
  else
  lt (fun  (σ69 : Mem) => 
  lt (mput σ69 k0 4 (if (σ69 k0 3) = (255 : Int32) then (7 : Int32) else (8 : Int32))) fun σ74 =>
  lt (mput σ74 k0 3 (f_BY_get (wtg k0 0) (σ k0 2) σ)) fun σ75 =>
  lt (mput σ75 k0 2 ((σ75 k0 2) + (1 : Int32))) fun σ76 =>
  σ76) fun K70 =>
  if (σ k0 3) = (255 : Int32) then
  if (f_BY_get (wtg k0 0) (σ k0 2) σ) ≤ (127 : Int32) then
  K70 σ
  else
  lt (f_FA_meet (wtg k0 1) (7 : Int32) (σ k0 2) σ) fun σ79 =>
  σ79
  else
  K70 σ
set_option maxHeartbeats 4000000 in
set_option maxRecDepth 100000 in
theorem w_BO_fetch {F : Fx} (C : Ctx F prog_3_method_7_code 2 "LineFrames$BitSource" none 1 22) {k0 : Nat} (h0k : Is k0 2) (σ : Mem) : J F 2 cvM (f_BO_fetch k0 σ) σ 0 [(0, .ref (fad F k0))] [] := by
  unfold f_BO_fetch
  refine j_aload_n C d_BO_fetch_0 0 rfl ?_
  refine j_getR C h0k fl_BO_21 rfl d_BO_fetch_1 ?_
  refine j_aload_n C d_BO_fetch_4 0 rfl ?_
  refine j_getI C h0k fl_BO_9 rfl d_BO_fetch_5 ?_
  refine j_callVi C mv_BO_39 [.int (σ k0 2)] [] (tg_2_0 _ h0k) (c_BY_has (tg_2_0 _ h0k) (σ k0 2) σ) rfl rfl (by decide) (Nat.le_of_ble_eq_true rfl) d_BO_fetch_8 ?_
  refine j_if_ne (tgt := 30) C d_BO_fetch_11 (by decide) (fun c1 => ?_) (fun c1 => ?_)
  · refine j_aload_n C d_BO_fetch_30 0 rfl ?_
    refine j_getR C h0k fl_BO_21 rfl d_BO_fetch_31 ?_
    refine j_aload_n C d_BO_fetch_34 0 rfl ?_
    refine j_getI C h0k fl_BO_9 rfl d_BO_fetch_35 ?_
    refine j_callVi C mv_BO_49 [.int (σ k0 2)] [] (tg_2_0 _ h0k) (c_BY_get (tg_2_0 _ h0k) (σ k0 2) σ) rfl rfl (by decide) (Nat.le_of_ble_eq_true rfl) d_BO_fetch_38 ?_
    refine j_istore_n (lv9 := [(0, .ref (fad F k0)), (1, .int (f_BY_get (wtg k0 0) (σ k0 2) σ))]) C d_BO_fetch_41 rfl rfl (by decide) ?_
    refine j_aload_n C d_BO_fetch_42 0 rfl ?_
    refine j_getI C h0k fl_BO_15 rfl d_BO_fetch_43 ?_
    refine j_sipush (v := (255 : Int32)) C d_BO_fetch_46 (by decide) ?_
    refine j_join0m 72 (fun _ => [(0, .ref (fad F k0)), (1, .int (f_BY_get (wtg k0 0) (σ k0 2) σ))]) (fun _ => []) (fun σ69 => ?_) (fun K70 H71 => ?_)
    · refine j_aload_n C d_BO_fetch_72 0 rfl ?_
      refine j_aload_n C d_BO_fetch_73 0 rfl ?_
      refine j_getI C h0k fl_BO_15 rfl d_BO_fetch_74 ?_
      refine j_sipush (v := (255 : Int32)) C d_BO_fetch_77 (by decide) ?_
      refine d_icmp_ne (a := (7 : Int32)) (b := (8 : Int32)) (jp := 90) (tgt := 88) C d_BO_fetch_80 (by decide) (fun c72 k73 => ?_) (fun c72 k73 => ?_) ?_
      · refine j_bipush (v := (8 : Int32)) C d_BO_fetch_88 (by decide) ?_
        exact k73
      · refine j_bipush (v := (7 : Int32)) C d_BO_fetch_83 (by decide) ?_
        refine j_goto (tgt := 90) C d_BO_fetch_85 (by decide) ?_
        exact k73
      refine j_put C h0k fl_BO_18 fw_2_4 rfl rfl rfl d_BO_fetch_90 (fun σ74 => ?_)
      refine j_aload_n C d_BO_fetch_93 0 rfl ?_
      refine j_iload_n C d_BO_fetch_94 1 rfl ?_
      refine j_put C h0k fl_BO_15 fw_2_3 rfl rfl rfl d_BO_fetch_95 (fun σ75 => ?_)
      refine j_aload_n C d_BO_fetch_98 0 rfl ?_
      refine j_dup C d_BO_fetch_99 rfl ?_
      refine j_getI C h0k fl_BO_9 rfl d_BO_fetch_100 ?_
      refine j_iconst (v := (1 : Int32)) C d_BO_fetch_103 (by decide) ?_
      refine j_iadd C d_BO_fetch_104 ?_
      refine j_put C h0k fl_BO_9 fw_2_2 rfl rfl rfl d_BO_fetch_105 (fun σ76 => ?_)
      exact j_vret C (fun ρ h => leaf_eq h) d_BO_fetch_108
    · refine j_icmp_ne (tgt := 72) C d_BO_fetch_49 (by decide) (fun c77 => ?_) (fun c77 => ?_)
      · exact H71 σ
      · refine j_iload_n C d_BO_fetch_52 1 rfl ?_
        refine j_bipush (v := (127 : Int32)) C d_BO_fetch_53 (by decide) ?_
        refine j_icmp_le (tgt := 72) C d_BO_fetch_55 (by decide) (fun c78 => ?_) (fun c78 => ?_)
        · exact H71 σ
        · refine j_aload_n C d_BO_fetch_58 0 rfl ?_
          refine j_getR C h0k fl_BO_25 rfl d_BO_fetch_59 ?_
          refine j_bipush (v := (7 : Int32)) C d_BO_fetch_62 (by decide) ?_
          refine j_aload_n C d_BO_fetch_64 0 rfl ?_
          refine j_getI C h0k fl_BO_9 rfl d_BO_fetch_65 ?_
          refine j_callVv C mv_BO_33 [.int (7 : Int32), .int (σ k0 2)] [] (tg_2_1 _ h0k) (c_FA_meet (tg_2_1 _ h0k) (7 : Int32) (σ k0 2) σ) rfl rfl (by decide) (Nat.le_of_ble_eq_true rfl) d_BO_fetch_68 ?_
          refine j_genM (fun σ79 => ?_)
          exact j_vret C (fun ρ h => leaf_eq h) d_BO_fetch_71
  · refine j_aload_n C d_BO_fetch_14 0 rfl ?_
    refine j_getR C h0k fl_BO_25 rfl d_BO_fetch_15 ?_
    refine j_iconst (v := (1 : Int32)) C d_BO_fetch_18 (by decide) ?_
    refine j_aload_n C d_BO_fetch_19 0 rfl ?_
    refine j_getR C h0k fl_BO_21 rfl d_BO_fetch_20 ?_
    refine j_callVi C mv_BO_45 [] [.int (1 : Int32), .ref (fad F (wtg k0 1))] (tg_2_0 _ h0k) (c_BY_size (tg_2_0 _ h0k) σ) rfl rfl (by decide) (Nat.le_of_ble_eq_true rfl) d_BO_fetch_23 ?_
    refine j_callVv C mv_BO_33 [.int (1 : Int32), .int (f_BY_size (wtg k0 0) σ)] [] (tg_2_1 _ h0k) (c_FA_meet (tg_2_1 _ h0k) (1 : Int32) (f_BY_size (wtg k0 0) σ) σ) rfl rfl (by decide) (Nat.le_of_ble_eq_true rfl) d_BO_fetch_26 ?_
    refine j_genM (fun σ80 => ?_)
    exact j_vret C (fun ρ h => leaf_eq h) d_BO_fetch_29
theorem c_BO_fetch {l : Launch} {D : va_G} {G : GC} {ad : Nat → Nat} {k0 : Nat} (h0k : Is k0 2) (σ : Mem) : Ctr l D G ad ⟨"LineFrames$BitSource", "fetch", "()V"⟩ prog_3_method_7_code 2 none 1 22 [.ref (ad k0)] σ (.inl none, (f_BO_fetch k0 σ)) := ctr_J (cv := cvM) (E := f_BO_fetch k0 σ) (by decide +kernel) (Nat.le_of_ble_eq_true rfl) rfl (fun F h C => by subst h; exact w_BO_fetch C h0k σ)
/-! LineFrames$BitSource bits (I)I -/
theorem d_BO_bits_0 : decode prog_3_method_6_code 0 = .ok (.iconst 0, 1) := by decide +kernel
theorem d_BO_bits_1 : decode prog_3_method_6_code 1 = .ok (.istore_n 2, 1) := by decide +kernel
theorem d_BO_bits_2 : decode prog_3_method_6_code 2 = .ok (.iconst 0, 1) := by decide +kernel
theorem d_BO_bits_3 : decode prog_3_method_6_code 3 = .ok (.istore_n 3, 1) := by decide +kernel
theorem d_BO_bits_4 : decode prog_3_method_6_code 4 = .ok (.iload_n 3, 1) := by decide +kernel
theorem d_BO_bits_5 : decode prog_3_method_6_code 5 = .ok (.iload_n 1, 1) := by decide +kernel
theorem d_BO_bits_6 : decode prog_3_method_6_code 6 = .ok (.if_icmp .ge 63, 3) := by decide +kernel
theorem d_BO_bits_9 : decode prog_3_method_6_code 9 = .ok (.aload_n 0, 1) := by decide +kernel
theorem d_BO_bits_10 : decode prog_3_method_6_code 10 = .ok (.getfield 25, 3) := by decide +kernel
theorem d_BO_bits_13 : decode prog_3_method_6_code 13 = .ok (.invokevirtual 52, 3) := by decide +kernel
theorem d_BO_bits_16 : decode prog_3_method_6_code 16 = .ok (.ifCond .ne 53, 3) := by decide +kernel
theorem d_BO_bits_19 : decode prog_3_method_6_code 19 = .ok (.aload_n 0, 1) := by decide +kernel
theorem d_BO_bits_20 : decode prog_3_method_6_code 20 = .ok (.getfield 18, 3) := by decide +kernel
theorem d_BO_bits_23 : decode prog_3_method_6_code 23 = .ok (.ifCond .ne 7, 3) := by decide +kernel
theorem d_BO_bits_26 : decode prog_3_method_6_code 26 = .ok (.aload_n 0, 1) := by decide +kernel
theorem d_BO_bits_27 : decode prog_3_method_6_code 27 = .ok (.invokevirtual 56, 3) := by decide +kernel
theorem d_BO_bits_30 : decode prog_3_method_6_code 30 = .ok (.aload_n 0, 1) := by decide +kernel
theorem d_BO_bits_31 : decode prog_3_method_6_code 31 = .ok (.getfield 18, 3) := by decide +kernel
theorem d_BO_bits_34 : decode prog_3_method_6_code 34 = .ok (.ifCond .le 29, 3) := by decide +kernel
theorem d_BO_bits_37 : decode prog_3_method_6_code 37 = .ok (.aload_n 0, 1) := by decide +kernel
theorem d_BO_bits_38 : decode prog_3_method_6_code 38 = .ok (.dup, 1) := by decide +kernel
theorem d_BO_bits_39 : decode prog_3_method_6_code 39 = .ok (.getfield 18, 3) := by decide +kernel
theorem d_BO_bits_42 : decode prog_3_method_6_code 42 = .ok (.iconst 1, 1) := by decide +kernel
theorem d_BO_bits_43 : decode prog_3_method_6_code 43 = .ok (.isub, 1) := by decide +kernel
theorem d_BO_bits_44 : decode prog_3_method_6_code 44 = .ok (.putfield 18, 3) := by decide +kernel
theorem d_BO_bits_47 : decode prog_3_method_6_code 47 = .ok (.iload_n 2, 1) := by decide +kernel
theorem d_BO_bits_48 : decode prog_3_method_6_code 48 = .ok (.iconst 2, 1) := by decide +kernel
theorem d_BO_bits_49 : decode prog_3_method_6_code 49 = .ok (.imul, 1) := by decide +kernel
theorem d_BO_bits_50 : decode prog_3_method_6_code 50 = .ok (.aload_n 0, 1) := by decide +kernel
theorem d_BO_bits_51 : decode prog_3_method_6_code 51 = .ok (.getfield 15, 3) := by decide +kernel
theorem d_BO_bits_54 : decode prog_3_method_6_code 54 = .ok (.aload_n 0, 1) := by decide +kernel
theorem d_BO_bits_55 : decode prog_3_method_6_code 55 = .ok (.getfield 18, 3) := by decide +kernel
theorem d_BO_bits_58 : decode prog_3_method_6_code 58 = .ok (.ishr, 1) := by decide +kernel
theorem d_BO_bits_59 : decode prog_3_method_6_code 59 = .ok (.iconst 1, 1) := by decide +kernel
theorem d_BO_bits_60 : decode prog_3_method_6_code 60 = .ok (.iand, 1) := by decide +kernel
theorem d_BO_bits_61 : decode prog_3_method_6_code 61 = .ok (.iadd, 1) := by decide +kernel
theorem d_BO_bits_62 : decode prog_3_method_6_code 62 = .ok (.istore_n 2, 1) := by decide +kernel
theorem d_BO_bits_63 : decode prog_3_method_6_code 63 = .ok (.iinc 3 1, 3) := by decide +kernel
theorem d_BO_bits_66 : decode prog_3_method_6_code 66 = .ok (.goto (-62), 3) := by decide +kernel
theorem d_BO_bits_69 : decode prog_3_method_6_code 69 = .ok (.iload_n 2, 1) := by decide +kernel
theorem d_BO_bits_70 : decode prog_3_method_6_code 70 = .ok (.ireturn, 1) := by decide +kernel
def L_BO_bits_4 (r0 : Nat) (b1 : Int32) : Nat → Int32 → Int32 → Mem →  Option (Int32 × Int32 × Mem)
  | 0, _, _, _ => none
  | n + 1, a2, a3, σ =>
  if b1 ≤ a3 then
  some (a2, a3, σ)
  else
  if (f_FA_met (wtg r0 1) σ) = 0 then
  lt (fun  (σ90 : Mem) => 
  lt (fun (y98 : Int32) (σ99 : Mem) => 
  L_BO_bits_4 r0 b1 n y98 (a3 + (1 : Int32)) σ99) fun K100 =>
  if (σ90 r0 4) ≤ 0 then
  K100 a2 σ90
  else
  lt (mput σ90 r0 4 ((σ90 r0 4) - (1 : Int32))) fun σ103 =>
  lt ((a2 * (2 : Int32)) + (((σ103 r0 3) >>> ((σ103 r0 4) &&& 31)) &&& (1 : Int32))) fun v104 =>
  K100 v104 σ103) fun K91 =>
  if (σ r0 4) = 0 then
  lt (f_BO_fetch r0 σ) fun σ106 =>
  K91 σ106
  else
  K91 σ
  else
  some (a2, a3, σ)
def f_BO_bits (k0 : Nat) (x1 : Int32) (σ : Mem) : Option (Int32 × Mem) :=
  (L_BO_bits_4 k0 x1 9999 (0 : Int32) (0 : Int32) σ).bind fun q107 =>
  some (q107.1, q107.2.2)
set_option maxHeartbeats 4000000 in
set_option maxRecDepth 100000 in
theorem wL_BO_bits_4 {F : Fx} (C : Ctx F prog_3_method_6_code 4 "LineFrames$BitSource" (some .int) 2 43) {cv : Option (Int32 × Int32 × Mem) → Option Rs} (h0 : cv none = none) (r0 : Nat) (hr0 : Is r0 2) (b1 : Int32) (hex : ∀ q : Int32 × Int32 × Mem, J F 4 cv (some q) q.2.2 69 [(0, .ref (fad F r0)), (1, .int b1), (2, .int q.1), (3, .int q.2.1)] []) : ∀ (n : Nat) (a2 : Int32) (a3 : Int32) (σ : Mem), J F 4 cv (L_BO_bits_4 r0 b1 n a2 a3 σ) σ 4 [(0, .ref (fad F r0)), (1, .int b1), (2, .int a2), (3, .int a3)] [] := by
  intro n
  induction n with
  | zero => intro a2 a3 σ hE; rw [L_BO_bits_4, h0] at hE; cases hE
  | succ n ih =>
    intro a2 a3 σ
    rw [L_BO_bits_4]
    refine j_iload_n C d_BO_bits_4 3 rfl ?_
    refine j_iload_n C d_BO_bits_5 1 rfl ?_
    refine j_icmp_ge (tgt := 69) C d_BO_bits_6 (by decide) (fun c1 => ?_) (fun c1 => ?_)
    · exact hex (a2, a3, σ)
    · refine j_aload_n C d_BO_bits_9 0 rfl ?_
      refine j_getR C hr0 fl_BO_25 rfl d_BO_bits_10 ?_
      refine j_callVi C mv_BO_52 [] [] (tg_2_1 _ hr0) (c_FA_met (tg_2_1 _ hr0) σ) rfl rfl (by decide) (Nat.le_of_ble_eq_true rfl) d_BO_bits_13 ?_
      refine j_if_ne (tgt := 69) C d_BO_bits_16 (by decide) (fun c2 => ?_) (fun c2 => ?_)
      · exact hex (a2, a3, σ)
      · refine j_aload_n C d_BO_bits_19 0 rfl ?_
        refine j_getI C hr0 fl_BO_18 rfl d_BO_bits_20 ?_
        refine j_join0m 30 (fun _ => [(0, .ref (fad F r0)), (1, .int b1), (2, .int a2), (3, .int a3)]) (fun _ => []) (fun σ90 => ?_) (fun K91 H92 => ?_)
        · refine j_aload_n C d_BO_bits_30 0 rfl ?_
          refine j_getI C hr0 fl_BO_18 rfl d_BO_bits_31 ?_
          refine j_join1m 63 (fun y98 _ => [(0, .ref (fad F r0)), (1, .int b1), (2, .int y98), (3, .int a3)]) (fun _ _ => []) (fun y98 σ99 => ?_) (fun K100 H101 => ?_)
          · refine j_iinc (v := (a3 + (1 : Int32))) (lv9 := [(0, .ref (fad F r0)), (1, .int b1), (2, .int y98), (3, .int (a3 + (1 : Int32)))]) C d_BO_bits_63 3 rfl rfl rfl rfl (by decide) ?_
            refine j_goto (tgt := 4) C d_BO_bits_66 (by decide) ?_
            exact ih y98 (a3 + (1 : Int32)) σ99
          · refine j_if_le (tgt := 63) C d_BO_bits_34 (by decide) (fun c102 => ?_) (fun c102 => ?_)
            · exact H101 a2 σ90
            · refine j_aload_n C d_BO_bits_37 0 rfl ?_
              refine j_dup C d_BO_bits_38 rfl ?_
              refine j_getI C hr0 fl_BO_18 rfl d_BO_bits_39 ?_
              refine j_iconst (v := (1 : Int32)) C d_BO_bits_42 (by decide) ?_
              refine j_isub C d_BO_bits_43 ?_
              refine j_put C hr0 fl_BO_18 fw_2_4 rfl rfl rfl d_BO_bits_44 (fun σ103 => ?_)
              refine j_iload_n C d_BO_bits_47 2 rfl ?_
              refine j_iconst (v := (2 : Int32)) C d_BO_bits_48 (by decide) ?_
              refine j_imul C d_BO_bits_49 ?_
              refine j_aload_n C d_BO_bits_50 0 rfl ?_
              refine j_getI C hr0 fl_BO_15 rfl d_BO_bits_51 ?_
              refine j_aload_n C d_BO_bits_54 0 rfl ?_
              refine j_getI C hr0 fl_BO_18 rfl d_BO_bits_55 ?_
              refine j_ishr C d_BO_bits_58 ?_
              refine j_iconst (v := (1 : Int32)) C d_BO_bits_59 (by decide) ?_
              refine j_iand C d_BO_bits_60 ?_
              refine j_iadd C d_BO_bits_61 ?_
              refine j_nm (fun v104 v104_e => ?_)
              refine j_istore_n (lv9 := [(0, .ref (fad F r0)), (1, .int b1), (2, .int v104), (3, .int a3)]) C d_BO_bits_62 rfl rfl (by decide) ?_
              exact H101 v104 σ103
        · refine j_if_ne (tgt := 30) C d_BO_bits_23 (by decide) (fun c105 => ?_) (fun c105 => ?_)
          · exact H92 σ
          · refine j_aload_n C d_BO_bits_26 0 rfl ?_
            refine j_callVv C mv_BO_56 [] [] hr0 (c_BO_fetch hr0 σ) rfl rfl (by decide) (Nat.le_of_ble_eq_true rfl) d_BO_bits_27 ?_
            refine j_genM (fun σ106 => ?_)
            exact H92 σ106
set_option maxHeartbeats 4000000 in
set_option maxRecDepth 100000 in
theorem w_BO_bits {F : Fx} (C : Ctx F prog_3_method_6_code 4 "LineFrames$BitSource" (some .int) 2 43) {k0 : Nat} (h0k : Is k0 2) (x1 : Int32) (σ : Mem) : J F 4 (cvO cvIM) (f_BO_bits k0 x1 σ) σ 0 [(0, .ref (fad F k0)), (1, .int x1)] [] := by
  unfold f_BO_bits
  refine j_iconst (v := (0 : Int32)) C d_BO_bits_0 (by decide) ?_
  refine j_istore_n (lv9 := [(0, .ref (fad F k0)), (1, .int x1), (2, .int (0 : Int32))]) C d_BO_bits_1 rfl rfl (by decide) ?_
  refine j_iconst (v := (0 : Int32)) C d_BO_bits_2 (by decide) ?_
  refine j_istore_n (lv9 := [(0, .ref (fad F k0)), (1, .int x1), (2, .int (0 : Int32)), (3, .int (0 : Int32))]) C d_BO_bits_3 rfl rfl (by decide) ?_
  refine j_loop (wL_BO_bits_4 C rfl k0 h0k x1 (fun q107 => j_some ?_) 9999 (0 : Int32) (0 : Int32) σ)
  refine j_iload_n C d_BO_bits_69 2 rfl ?_
  exact j_ireti C (fun ρ h => leaf_eq h) d_BO_bits_70
theorem c_BO_bits {l : Launch} {D : va_G} {G : GC} {ad : Nat → Nat} {k0 : Nat} (h0k : Is k0 2) (x1 : Int32) (σ : Mem) {q : Int32 × Mem} (hq : f_BO_bits k0 x1 σ = some q) : Ctr l D G ad ⟨"LineFrames$BitSource", "bits", "(I)I"⟩ prog_3_method_6_code 4 (some .int) 2 43 [.ref (ad k0), .int x1] σ (.inl (some (.int q.1)), q.2) := ctr_J (cv := (cvO cvIM)) (E := f_BO_bits k0 x1 σ) (by decide +kernel) (Nat.le_of_ble_eq_true rfl) (by rw [hq]; rfl) (fun F h C => by subst h; exact w_BO_bits C h0k x1 σ)
/-! LineFrames$BitSource code (I)I -/
theorem d_BO_code_0 : decode prog_3_method_4_code 0 = .ok (.iconst 0, 1) := by decide +kernel
theorem d_BO_code_1 : decode prog_3_method_4_code 1 = .ok (.istore_n 2, 1) := by decide +kernel
theorem d_BO_code_2 : decode prog_3_method_4_code 2 = .ok (.iload_n 2, 1) := by decide +kernel
theorem d_BO_code_3 : decode prog_3_method_4_code 3 = .ok (.bipush 20, 2) := by decide +kernel
theorem d_BO_code_5 : decode prog_3_method_4_code 5 = .ok (.if_icmp .gt 17, 3) := by decide +kernel
theorem d_BO_code_8 : decode prog_3_method_4_code 8 = .ok (.aload_n 0, 1) := by decide +kernel
theorem d_BO_code_9 : decode prog_3_method_4_code 9 = .ok (.iconst 1, 1) := by decide +kernel
theorem d_BO_code_10 : decode prog_3_method_4_code 10 = .ok (.invokevirtual 29, 3) := by decide +kernel
theorem d_BO_code_13 : decode prog_3_method_4_code 13 = .ok (.ifCond .ne 9, 3) := by decide +kernel
theorem d_BO_code_16 : decode prog_3_method_4_code 16 = .ok (.iinc 2 1, 3) := by decide +kernel
theorem d_BO_code_19 : decode prog_3_method_4_code 19 = .ok (.goto (-17), 3) := by decide +kernel
theorem d_BO_code_22 : decode prog_3_method_4_code 22 = .ok (.iload_n 2, 1) := by decide +kernel
theorem d_BO_code_23 : decode prog_3_method_4_code 23 = .ok (.bipush 20, 2) := by decide +kernel
theorem d_BO_code_25 : decode prog_3_method_4_code 25 = .ok (.if_icmp .le 20, 3) := by decide +kernel
theorem d_BO_code_28 : decode prog_3_method_4_code 28 = .ok (.aload_n 0, 1) := by decide +kernel
theorem d_BO_code_29 : decode prog_3_method_4_code 29 = .ok (.getfield 25, 3) := by decide +kernel
theorem d_BO_code_32 : decode prog_3_method_4_code 32 = .ok (.bipush 7, 2) := by decide +kernel
theorem d_BO_code_34 : decode prog_3_method_4_code 34 = .ok (.aload_n 0, 1) := by decide +kernel
theorem d_BO_code_35 : decode prog_3_method_4_code 35 = .ok (.getfield 9, 3) := by decide +kernel
theorem d_BO_code_38 : decode prog_3_method_4_code 38 = .ok (.iconst 1, 1) := by decide +kernel
theorem d_BO_code_39 : decode prog_3_method_4_code 39 = .ok (.isub, 1) := by decide +kernel
theorem d_BO_code_40 : decode prog_3_method_4_code 40 = .ok (.invokevirtual 33, 3) := by decide +kernel
theorem d_BO_code_43 : decode prog_3_method_4_code 43 = .ok (.iconst 0, 1) := by decide +kernel
theorem d_BO_code_44 : decode prog_3_method_4_code 44 = .ok (.ireturn, 1) := by decide +kernel
theorem d_BO_code_45 : decode prog_3_method_4_code 45 = .ok (.iload_n 2, 1) := by decide +kernel
theorem d_BO_code_46 : decode prog_3_method_4_code 46 = .ok (.bipush 20, 2) := by decide +kernel
theorem d_BO_code_48 : decode prog_3_method_4_code 48 = .ok (.if_icmp .ne 12, 3) := by decide +kernel
theorem d_BO_code_51 : decode prog_3_method_4_code 51 = .ok (.aload_n 0, 1) := by decide +kernel
theorem d_BO_code_52 : decode prog_3_method_4_code 52 = .ok (.bipush 9, 2) := by decide +kernel
theorem d_BO_code_54 : decode prog_3_method_4_code 54 = .ok (.invokevirtual 29, 3) := by decide +kernel
theorem d_BO_code_57 : decode prog_3_method_4_code 57 = .ok (.goto 12, 3) := by decide +kernel
theorem d_BO_code_60 : decode prog_3_method_4_code 60 = .ok (.iload_n 2, 1) := by decide +kernel
theorem d_BO_code_61 : decode prog_3_method_4_code 61 = .ok (.iload_n 1, 1) := by decide +kernel
theorem d_BO_code_62 : decode prog_3_method_4_code 62 = .ok (.ishl, 1) := by decide +kernel
theorem d_BO_code_63 : decode prog_3_method_4_code 63 = .ok (.aload_n 0, 1) := by decide +kernel
theorem d_BO_code_64 : decode prog_3_method_4_code 64 = .ok (.iload_n 1, 1) := by decide +kernel
theorem d_BO_code_65 : decode prog_3_method_4_code 65 = .ok (.invokevirtual 29, 3) := by decide +kernel
theorem d_BO_code_68 : decode prog_3_method_4_code 68 = .ok (.iadd, 1) := by decide +kernel
theorem d_BO_code_69 : decode prog_3_method_4_code 69 = .ok (.ireturn, 1) := by decide +kernel
def L_BO_code_2 (r0 : Nat) (b1 : Int32) : Nat → Int32 → Mem →  Option (Int32 × Mem)
  | 0, _, _ => none
  | n + 1, a2, σ =>
  if (20 : Int32) < a2 then
  some (a2, σ)
  else
  (f_BO_bits r0 (1 : Int32) σ).bind fun q3 =>
  if q3.1 = 0 then
  L_BO_code_2 r0 b1 n (a2 + (1 : Int32)) q3.2
  else
  some (a2, q3.2)
def f_BO_code (k0 : Nat) (x1 : Int32) (σ : Mem) : Option (Int32 × Mem) :=
  (L_BO_code_2 k0 x1 9999 (0 : Int32) σ).bind fun q5 =>
  if q5.1 ≤ (20 : Int32) then
  if q5.1 = (20 : Int32) then
  (f_BO_bits k0 (9 : Int32) q5.2).bind fun q13 =>
  some (q13.1, q13.2)
  else
  (f_BO_bits k0 x1 q5.2).bind fun q11 =>
  some (((q5.1 <<< (x1 &&& 31)) + q11.1), q11.2)
  else
  lt (f_FA_meet (wtg k0 1) (7 : Int32) ((q5.2 k0 2) - (1 : Int32)) q5.2) fun σ14 =>
  some ((0 : Int32), σ14)
set_option maxHeartbeats 4000000 in
set_option maxRecDepth 100000 in
theorem wL_BO_code_2 {F : Fx} (C : Ctx F prog_3_method_4_code 3 "LineFrames$BitSource" (some .int) 3 66) {cv : Option (Int32 × Mem) → Option Rs} (h0 : cv none = none) (r0 : Nat) (hr0 : Is r0 2) (b1 : Int32) (hex : ∀ q : Int32 × Mem, J F 3 cv (some q) q.2 22 [(0, .ref (fad F r0)), (1, .int b1), (2, .int q.1)] []) : ∀ (n : Nat) (a2 : Int32) (σ : Mem), J F 3 cv (L_BO_code_2 r0 b1 n a2 σ) σ 2 [(0, .ref (fad F r0)), (1, .int b1), (2, .int a2)] [] := by
  intro n
  induction n with
  | zero => intro a2 σ hE; rw [L_BO_code_2, h0] at hE; cases hE
  | succ n ih =>
    intro a2 σ
    rw [L_BO_code_2]
    refine j_iload_n C d_BO_code_2 2 rfl ?_
    refine j_bipush (v := (20 : Int32)) C d_BO_code_3 (by decide) ?_
    refine j_icmp_gt (tgt := 22) C d_BO_code_5 (by decide) (fun c1 => ?_) (fun c1 => ?_)
    · exact hex (a2, σ)
    · refine j_aload_n C d_BO_code_8 0 rfl ?_
      refine j_iconst (v := (1 : Int32)) C d_BO_code_9 (by decide) ?_
      refine j_bind (by exact h0) (fun q3 e2 => ?_)
      refine j_callVi C mv_BO_29 [.int (1 : Int32)] [] hr0 (c_BO_bits hr0 (1 : Int32) σ e2) rfl rfl (by decide) (Nat.le_of_ble_eq_true rfl) d_BO_code_10 ?_
      refine j_if_ne (tgt := 22) C d_BO_code_13 (by decide) (fun c4 => ?_) (fun c4 => ?_)
      · exact hex (a2, q3.2)
      · refine j_iinc (v := (a2 + (1 : Int32))) (lv9 := [(0, .ref (fad F r0)), (1, .int b1), (2, .int (a2 + (1 : Int32)))]) C d_BO_code_16 2 rfl rfl rfl rfl (by decide) ?_
        refine j_goto (tgt := 2) C d_BO_code_19 (by decide) ?_
        exact ih (a2 + (1 : Int32)) q3.2
set_option maxHeartbeats 4000000 in
set_option maxRecDepth 100000 in
theorem w_BO_code {F : Fx} (C : Ctx F prog_3_method_4_code 3 "LineFrames$BitSource" (some .int) 3 66) {k0 : Nat} (h0k : Is k0 2) (x1 : Int32) (σ : Mem) : J F 3 (cvO cvIM) (f_BO_code k0 x1 σ) σ 0 [(0, .ref (fad F k0)), (1, .int x1)] [] := by
  unfold f_BO_code
  refine j_iconst (v := (0 : Int32)) C d_BO_code_0 (by decide) ?_
  refine j_istore_n (lv9 := [(0, .ref (fad F k0)), (1, .int x1), (2, .int (0 : Int32))]) C d_BO_code_1 rfl rfl (by decide) ?_
  refine j_loop (wL_BO_code_2 C rfl k0 h0k x1 (fun q5 => j_some ?_) 9999 (0 : Int32) σ)
  refine j_iload_n C d_BO_code_22 2 rfl ?_
  refine j_bipush (v := (20 : Int32)) C d_BO_code_23 (by decide) ?_
  refine j_icmp_le (tgt := 45) C d_BO_code_25 (by decide) (fun c6 => ?_) (fun c6 => ?_)
  · refine j_iload_n C d_BO_code_45 2 rfl ?_
    refine j_bipush (v := (20 : Int32)) C d_BO_code_46 (by decide) ?_
    refine j_icmp_ne (tgt := 60) C d_BO_code_48 (by decide) (fun c9 => ?_) (fun c9 => ?_)
    · refine j_iload_n C d_BO_code_60 2 rfl ?_
      refine j_iload_n C d_BO_code_61 1 rfl ?_
      refine j_ishl C d_BO_code_62 ?_
      refine j_aload_n C d_BO_code_63 0 rfl ?_
      refine j_iload_n C d_BO_code_64 1 rfl ?_
      refine j_bind rfl (fun q11 e10 => ?_)
      refine j_callVi C mv_BO_29 [.int x1] [.int (q5.1 <<< (x1 &&& 31))] h0k (c_BO_bits h0k x1 q5.2 e10) rfl rfl (by decide) (Nat.le_of_ble_eq_true rfl) d_BO_code_65 ?_
      refine j_iadd C d_BO_code_68 ?_
      exact j_ireti C (fun ρ h => leaf_eq h) d_BO_code_69
    · refine j_aload_n C d_BO_code_51 0 rfl ?_
      refine j_bipush (v := (9 : Int32)) C d_BO_code_52 (by decide) ?_
      refine j_bind rfl (fun q13 e12 => ?_)
      refine j_callVi C mv_BO_29 [.int (9 : Int32)] [] h0k (c_BO_bits h0k (9 : Int32) q5.2 e12) rfl rfl (by decide) (Nat.le_of_ble_eq_true rfl) d_BO_code_54 ?_
      refine j_goto (tgt := 69) C d_BO_code_57 (by decide) ?_
      exact j_ireti C (fun ρ h => leaf_eq h) d_BO_code_69
  · refine j_aload_n C d_BO_code_28 0 rfl ?_
    refine j_getR C h0k fl_BO_25 rfl d_BO_code_29 ?_
    refine j_bipush (v := (7 : Int32)) C d_BO_code_32 (by decide) ?_
    refine j_aload_n C d_BO_code_34 0 rfl ?_
    refine j_getI C h0k fl_BO_9 rfl d_BO_code_35 ?_
    refine j_iconst (v := (1 : Int32)) C d_BO_code_38 (by decide) ?_
    refine j_isub C d_BO_code_39 ?_
    refine j_callVv C mv_BO_33 [.int (7 : Int32), .int ((q5.2 k0 2) - (1 : Int32))] [] (tg_2_1 _ h0k) (c_FA_meet (tg_2_1 _ h0k) (7 : Int32) ((q5.2 k0 2) - (1 : Int32)) q5.2) rfl rfl (by decide) (Nat.le_of_ble_eq_true rfl) d_BO_code_40 ?_
    refine j_genM (fun σ14 => ?_)
    refine j_iconst (v := (0 : Int32)) C d_BO_code_43 (by decide) ?_
    exact j_ireti C (fun ρ h => leaf_eq h) d_BO_code_44
theorem c_BO_code {l : Launch} {D : va_G} {G : GC} {ad : Nat → Nat} {k0 : Nat} (h0k : Is k0 2) (x1 : Int32) (σ : Mem) {q : Int32 × Mem} (hq : f_BO_code k0 x1 σ = some q) : Ctr l D G ad ⟨"LineFrames$BitSource", "code", "(I)I"⟩ prog_3_method_4_code 3 (some .int) 3 66 [.ref (ad k0), .int x1] σ (.inl (some (.int q.1)), q.2) := ctr_J (cv := (cvO cvIM)) (E := f_BO_code k0 x1 σ) (by decide +kernel) (Nat.le_of_ble_eq_true rfl) (by rw [hq]; rfl) (fun F h C => by subst h; exact w_BO_code C h0k x1 σ)
/-! LineFrames$Model toSample (I)I -/
theorem d_MD_toSample_0 : decode prog_6_method_9_code 0 = .ok (.iconst 0, 1) := by decide +kernel
theorem d_MD_toSample_1 : decode prog_6_method_9_code 1 = .ok (.aload_n 0, 1) := by decide +kernel
theorem d_MD_toSample_2 : decode prog_6_method_9_code 2 = .ok (.getfield 23, 3) := by decide +kernel
theorem d_MD_toSample_5 : decode prog_6_method_9_code 5 = .ok (.iload_n 1, 1) := by decide +kernel
theorem d_MD_toSample_6 : decode prog_6_method_9_code 6 = .ok (.invokestatic 76, 3) := by decide +kernel
theorem d_MD_toSample_9 : decode prog_6_method_9_code 9 = .ok (.invokestatic 70, 3) := by decide +kernel
theorem d_MD_toSample_12 : decode prog_6_method_9_code 12 = .ok (.ireturn, 1) := by decide +kernel
def f_MD_toSample (k0 : Nat) (x1 : Int32) (σ : Mem) : Int32 :=
  (imax (0 : Int32) (imin (σ k0 3) x1))
set_option maxHeartbeats 4000000 in
set_option maxRecDepth 100000 in
theorem w_MD_toSample {F : Fx} (C : Ctx F prog_6_method_9_code 2 "LineFrames$Model" (some .int) 1 21) {k0 : Nat} (h0k : Is k0 5) (x1 : Int32) (σ : Mem) : J F 2 (cvI σ) (f_MD_toSample k0 x1 σ) σ 0 [(0, .ref (fad F k0)), (1, .int x1)] [] := by
  unfold f_MD_toSample
  refine j_iconst (v := (0 : Int32)) C d_MD_toSample_0 (by decide) ?_
  refine j_aload_n C d_MD_toSample_1 0 rfl ?_
  refine j_getI C h0k fl_MD_23 rfl d_MD_toSample_2 ?_
  refine j_iload_n C d_MD_toSample_5 1 rfl ?_
  refine j_min C mm_MD_76 ⟨by decide, Nat.le_of_ble_eq_true rfl⟩ d_MD_toSample_6 ?_
  refine j_max C mm_MD_70 ⟨by decide, Nat.le_of_ble_eq_true rfl⟩ d_MD_toSample_9 ?_
  exact j_ireti C (fun ρ h => leaf_eq h) d_MD_toSample_12
theorem c_MD_toSample {l : Launch} {D : va_G} {G : GC} {ad : Nat → Nat} {k0 : Nat} (h0k : Is k0 5) (x1 : Int32) (σ : Mem) : Ctr l D G ad ⟨"LineFrames$Model", "toSample", "(I)I"⟩ prog_6_method_9_code 2 (some .int) 1 21 [.ref (ad k0), .int x1] σ (.inl (some (.int (f_MD_toSample k0 x1 σ))), σ) := ctr_J (cv := (cvI σ)) (E := f_MD_toSample k0 x1 σ) (by decide +kernel) (Nat.le_of_ble_eq_true rfl) rfl (fun F h C => by subst h; exact w_MD_toSample C h0k x1 σ)
/-! LineFrames$Model learn (II)V -/
theorem d_MD_learn_0 : decode prog_6_method_10_code 0 = .ok (.aload_n 0, 1) := by decide +kernel
theorem d_MD_learn_1 : decode prog_6_method_10_code 1 = .ok (.getfield 14, 3) := by decide +kernel
theorem d_MD_learn_4 : decode prog_6_method_10_code 4 = .ok (.iload_n 1, 1) := by decide +kernel
theorem d_MD_learn_5 : decode prog_6_method_10_code 5 = .ok (.invokevirtual 57, 3) := by decide +kernel
theorem d_MD_learn_8 : decode prog_6_method_10_code 8 = .ok (.istore_n 3, 1) := by decide +kernel
theorem d_MD_learn_9 : decode prog_6_method_10_code 9 = .ok (.aload_n 0, 1) := by decide +kernel
theorem d_MD_learn_10 : decode prog_6_method_10_code 10 = .ok (.getfield 20, 3) := by decide +kernel
theorem d_MD_learn_13 : decode prog_6_method_10_code 13 = .ok (.iload_n 1, 1) := by decide +kernel
theorem d_MD_learn_14 : decode prog_6_method_10_code 14 = .ok (.invokevirtual 57, 3) := by decide +kernel
theorem d_MD_learn_17 : decode prog_6_method_10_code 17 = .ok (.istore 4, 2) := by decide +kernel
theorem d_MD_learn_19 : decode prog_6_method_10_code 19 = .ok (.iload 4, 2) := by decide +kernel
theorem d_MD_learn_21 : decode prog_6_method_10_code 21 = .ok (.aload_n 0, 1) := by decide +kernel
theorem d_MD_learn_22 : decode prog_6_method_10_code 22 = .ok (.getfield 36, 3) := by decide +kernel
theorem d_MD_learn_25 : decode prog_6_method_10_code 25 = .ok (.if_icmp .ne 13, 3) := by decide +kernel
theorem d_MD_learn_28 : decode prog_6_method_10_code 28 = .ok (.iload_n 3, 1) := by decide +kernel
theorem d_MD_learn_29 : decode prog_6_method_10_code 29 = .ok (.iconst 2, 1) := by decide +kernel
theorem d_MD_learn_30 : decode prog_6_method_10_code 30 = .ok (.idiv, 1) := by decide +kernel
theorem d_MD_learn_31 : decode prog_6_method_10_code 31 = .ok (.istore_n 3, 1) := by decide +kernel
theorem d_MD_learn_32 : decode prog_6_method_10_code 32 = .ok (.iload 4, 2) := by decide +kernel
theorem d_MD_learn_34 : decode prog_6_method_10_code 34 = .ok (.iconst 2, 1) := by decide +kernel
theorem d_MD_learn_35 : decode prog_6_method_10_code 35 = .ok (.idiv, 1) := by decide +kernel
theorem d_MD_learn_36 : decode prog_6_method_10_code 36 = .ok (.istore 4, 2) := by decide +kernel
theorem d_MD_learn_38 : decode prog_6_method_10_code 38 = .ok (.aload_n 0, 1) := by decide +kernel
theorem d_MD_learn_39 : decode prog_6_method_10_code 39 = .ok (.getfield 14, 3) := by decide +kernel
theorem d_MD_learn_42 : decode prog_6_method_10_code 42 = .ok (.iload_n 1, 1) := by decide +kernel
theorem d_MD_learn_43 : decode prog_6_method_10_code 43 = .ok (.iload_n 3, 1) := by decide +kernel
theorem d_MD_learn_44 : decode prog_6_method_10_code 44 = .ok (.iload_n 2, 1) := by decide +kernel
theorem d_MD_learn_45 : decode prog_6_method_10_code 45 = .ok (.invokestatic 89, 3) := by decide +kernel
theorem d_MD_learn_48 : decode prog_6_method_10_code 48 = .ok (.iadd, 1) := by decide +kernel
theorem d_MD_learn_49 : decode prog_6_method_10_code 49 = .ok (.invokevirtual 82, 3) := by decide +kernel
theorem d_MD_learn_52 : decode prog_6_method_10_code 52 = .ok (.aload_n 0, 1) := by decide +kernel
theorem d_MD_learn_53 : decode prog_6_method_10_code 53 = .ok (.getfield 20, 3) := by decide +kernel
theorem d_MD_learn_56 : decode prog_6_method_10_code 56 = .ok (.iload_n 1, 1) := by decide +kernel
theorem d_MD_learn_57 : decode prog_6_method_10_code 57 = .ok (.iload 4, 2) := by decide +kernel
theorem d_MD_learn_59 : decode prog_6_method_10_code 59 = .ok (.iconst 1, 1) := by decide +kernel
theorem d_MD_learn_60 : decode prog_6_method_10_code 60 = .ok (.iadd, 1) := by decide +kernel
theorem d_MD_learn_61 : decode prog_6_method_10_code 61 = .ok (.invokevirtual 82, 3) := by decide +kernel
theorem d_MD_learn_64 : decode prog_6_method_10_code 64 = .ok (.return_, 1) := by decide +kernel
def f_MD_learn (k0 : Nat) (x1 : Int32) (x2 : Int32) (σ : Mem) : Mem :=
  lt (fun (y34 : Int32) (y35 : Int32) => 
  lt (f_RO_set (wtg k0 1) x1 (y34 + (iabs x2)) σ) fun σ38 =>
  lt (f_RO_set (wtg k0 2) x1 (y35 + (1 : Int32)) σ38) fun σ39 =>
  σ39) fun K36 =>
  if (f_RO_get (wtg k0 2) x1 σ) = (σ k0 7) then
  lt ((f_RO_get (wtg k0 1) x1 σ) / (2 : Int32)) fun v41 =>
  lt ((f_RO_get (wtg k0 2) x1 σ) / (2 : Int32)) fun v42 =>
  K36 v41 v42
  else
  K36 (f_RO_get (wtg k0 1) x1 σ) (f_RO_get (wtg k0 2) x1 σ)
set_option maxHeartbeats 4000000 in
set_option maxRecDepth 100000 in
theorem w_MD_learn {F : Fx} (C : Ctx F prog_6_method_10_code 5 "LineFrames$Model" none 1 22) {k0 : Nat} (h0k : Is k0 5) (x1 : Int32) (x2 : Int32) (σ : Mem) : J F 5 cvM (f_MD_learn k0 x1 x2 σ) σ 0 [(0, .ref (fad F k0)), (1, .int x1), (2, .int x2)] [] := by
  unfold f_MD_learn
  refine j_aload_n C d_MD_learn_0 0 rfl ?_
  refine j_getR C h0k fl_MD_14 rfl d_MD_learn_1 ?_
  refine j_iload_n C d_MD_learn_4 1 rfl ?_
  refine j_callVi C mv_MD_57 [.int x1] [] (tg_5_1 _ h0k) (c_RO_get (tg_5_1 _ h0k) x1 σ) rfl rfl (by decide) (Nat.le_of_ble_eq_true rfl) d_MD_learn_5 ?_
  refine j_istore_n (lv9 := [(0, .ref (fad F k0)), (1, .int x1), (2, .int x2), (3, .int (f_RO_get (wtg k0 1) x1 σ))]) C d_MD_learn_8 rfl rfl (by decide) ?_
  refine j_aload_n C d_MD_learn_9 0 rfl ?_
  refine j_getR C h0k fl_MD_20 rfl d_MD_learn_10 ?_
  refine j_iload_n C d_MD_learn_13 1 rfl ?_
  refine j_callVi C mv_MD_57 [.int x1] [] (tg_5_2 _ h0k) (c_RO_get (tg_5_2 _ h0k) x1 σ) rfl rfl (by decide) (Nat.le_of_ble_eq_true rfl) d_MD_learn_14 ?_
  refine j_istore (lv9 := [(0, .ref (fad F k0)), (1, .int x1), (2, .int x2), (3, .int (f_RO_get (wtg k0 1) x1 σ)), (4, .int (f_RO_get (wtg k0 2) x1 σ))]) C d_MD_learn_17 rfl rfl (by decide) ?_
  refine j_iload C d_MD_learn_19 4 rfl ?_
  refine j_aload_n C d_MD_learn_21 0 rfl ?_
  refine j_getI C h0k fl_MD_36 rfl d_MD_learn_22 ?_
  refine j_join2 38 (fun y34 y35 => [(0, .ref (fad F k0)), (1, .int x1), (2, .int x2), (3, .int y34), (4, .int y35)]) (fun _ _ => []) (fun y34 y35 => ?_) (fun K36 H37 => ?_)
  · refine j_aload_n C d_MD_learn_38 0 rfl ?_
    refine j_getR C h0k fl_MD_14 rfl d_MD_learn_39 ?_
    refine j_iload_n C d_MD_learn_42 1 rfl ?_
    refine j_iload_n C d_MD_learn_43 3 rfl ?_
    refine j_iload_n C d_MD_learn_44 2 rfl ?_
    refine j_abs C mm_MD_89 ⟨by decide, Nat.le_of_ble_eq_true rfl⟩ d_MD_learn_45 ?_
    refine j_iadd C d_MD_learn_48 ?_
    refine j_callVv C mv_MD_82 [.int x1, .int (y34 + (iabs x2))] [] (tg_5_1 _ h0k) (c_RO_set (tg_5_1 _ h0k) x1 (y34 + (iabs x2)) σ) rfl rfl (by decide) (Nat.le_of_ble_eq_true rfl) d_MD_learn_49 ?_
    refine j_genM (fun σ38 => ?_)
    refine j_aload_n C d_MD_learn_52 0 rfl ?_
    refine j_getR C h0k fl_MD_20 rfl d_MD_learn_53 ?_
    refine j_iload_n C d_MD_learn_56 1 rfl ?_
    refine j_iload C d_MD_learn_57 4 rfl ?_
    refine j_iconst (v := (1 : Int32)) C d_MD_learn_59 (by decide) ?_
    refine j_iadd C d_MD_learn_60 ?_
    refine j_callVv C mv_MD_82 [.int x1, .int (y35 + (1 : Int32))] [] (tg_5_2 _ h0k) (c_RO_set (tg_5_2 _ h0k) x1 (y35 + (1 : Int32)) σ38) rfl rfl (by decide) (Nat.le_of_ble_eq_true rfl) d_MD_learn_61 ?_
    refine j_genM (fun σ39 => ?_)
    exact j_vret C (fun ρ h => leaf_eq h) d_MD_learn_64
  · refine j_icmp_ne (tgt := 38) C d_MD_learn_25 (by decide) (fun c40 => ?_) (fun c40 => ?_)
    · exact H37 (f_RO_get (wtg k0 1) x1 σ) (f_RO_get (wtg k0 2) x1 σ)
    · refine j_iload_n C d_MD_learn_28 3 rfl ?_
      refine j_iconst (v := (2 : Int32)) C d_MD_learn_29 (by decide) ?_
      refine j_idiv C d_MD_learn_30 (by decide) ?_
      refine j_nm (fun v41 v41_e => ?_)
      refine j_istore_n (lv9 := [(0, .ref (fad F k0)), (1, .int x1), (2, .int x2), (3, .int v41), (4, .int (f_RO_get (wtg k0 2) x1 σ))]) C d_MD_learn_31 rfl rfl (by decide) ?_
      refine j_iload C d_MD_learn_32 4 rfl ?_
      refine j_iconst (v := (2 : Int32)) C d_MD_learn_34 (by decide) ?_
      refine j_idiv C d_MD_learn_35 (by decide) ?_
      refine j_nm (fun v42 v42_e => ?_)
      refine j_istore (lv9 := [(0, .ref (fad F k0)), (1, .int x1), (2, .int x2), (3, .int v41), (4, .int v42)]) C d_MD_learn_36 rfl rfl (by decide) ?_
      exact H37 v41 v42
theorem c_MD_learn {l : Launch} {D : va_G} {G : GC} {ad : Nat → Nat} {k0 : Nat} (h0k : Is k0 5) (x1 : Int32) (x2 : Int32) (σ : Mem) : Ctr l D G ad ⟨"LineFrames$Model", "learn", "(II)V"⟩ prog_6_method_10_code 5 none 1 22 [.ref (ad k0), .int x1, .int x2] σ (.inl none, (f_MD_learn k0 x1 x2 σ)) := ctr_J (cv := cvM) (E := f_MD_learn k0 x1 x2 σ) (by decide +kernel) (Nat.le_of_ble_eq_true rfl) rfl (fun F h C => by subst h; exact w_MD_learn C h0k x1 x2 σ)
