/-! LineFramesModel alter (II)I -/
theorem d_RM_alter_0 : decode prog_13_method_33_code 0 = .ok (.aload_n 0, 1) := by decide +kernel
theorem d_RM_alter_1 : decode prog_13_method_33_code 1 = .ok (.iload_n 1, 1) := by decide +kernel
theorem d_RM_alter_2 : decode prog_13_method_33_code 2 = .ok (.iconst 0, 1) := by decide +kernel
theorem d_RM_alter_3 : decode prog_13_method_33_code 3 = .ok (.aload_n 0, 1) := by decide +kernel
theorem d_RM_alter_4 : decode prog_13_method_33_code 4 = .ok (.getfield 207, 3) := by decide +kernel
theorem d_RM_alter_7 : decode prog_13_method_33_code 7 = .ok (.iconst 1, 1) := by decide +kernel
theorem d_RM_alter_8 : decode prog_13_method_33_code 8 = .ok (.isub, 1) := by decide +kernel
theorem d_RM_alter_9 : decode prog_13_method_33_code 9 = .ok (.invokestatic 93, 3) := by decide +kernel
theorem d_RM_alter_12 : decode prog_13_method_33_code 12 = .ok (.ifCond .ne 7, 3) := by decide +kernel
theorem d_RM_alter_15 : decode prog_13_method_33_code 15 = .ok (.iconst 1, 1) := by decide +kernel
theorem d_RM_alter_16 : decode prog_13_method_33_code 16 = .ok (.goto 19, 3) := by decide +kernel
theorem d_RM_alter_19 : decode prog_13_method_33_code 19 = .ok (.iload_n 2, 1) := by decide +kernel
theorem d_RM_alter_20 : decode prog_13_method_33_code 20 = .ok (.iconst 0, 1) := by decide +kernel
theorem d_RM_alter_21 : decode prog_13_method_33_code 21 = .ok (.sipush 255, 3) := by decide +kernel
theorem d_RM_alter_24 : decode prog_13_method_33_code 24 = .ok (.invokestatic 93, 3) := by decide +kernel
theorem d_RM_alter_27 : decode prog_13_method_33_code 27 = .ok (.ifCond .ne 7, 3) := by decide +kernel
theorem d_RM_alter_30 : decode prog_13_method_33_code 30 = .ok (.iconst 2, 1) := by decide +kernel
theorem d_RM_alter_31 : decode prog_13_method_33_code 31 = .ok (.goto 4, 3) := by decide +kernel
theorem d_RM_alter_34 : decode prog_13_method_33_code 34 = .ok (.iconst 0, 1) := by decide +kernel
theorem d_RM_alter_35 : decode prog_13_method_33_code 35 = .ok (.putfield 90, 3) := by decide +kernel
theorem d_RM_alter_38 : decode prog_13_method_33_code 38 = .ok (.aload_n 0, 1) := by decide +kernel
theorem d_RM_alter_39 : decode prog_13_method_33_code 39 = .ok (.getfield 90, 3) := by decide +kernel
theorem d_RM_alter_42 : decode prog_13_method_33_code 42 = .ok (.ifCond .le 5, 3) := by decide +kernel
theorem d_RM_alter_45 : decode prog_13_method_33_code 45 = .ok (.iconst 0, 1) := by decide +kernel
theorem d_RM_alter_46 : decode prog_13_method_33_code 46 = .ok (.ireturn, 1) := by decide +kernel
theorem d_RM_alter_47 : decode prog_13_method_33_code 47 = .ok (.aload_n 0, 1) := by decide +kernel
theorem d_RM_alter_48 : decode prog_13_method_33_code 48 = .ok (.getfield 32, 3) := by decide +kernel
theorem d_RM_alter_51 : decode prog_13_method_33_code 51 = .ok (.iload_n 1, 1) := by decide +kernel
theorem d_RM_alter_52 : decode prog_13_method_33_code 52 = .ok (.iaload, 1) := by decide +kernel
theorem d_RM_alter_53 : decode prog_13_method_33_code 53 = .ok (.istore_n 3, 1) := by decide +kernel
theorem d_RM_alter_54 : decode prog_13_method_33_code 54 = .ok (.aload_n 0, 1) := by decide +kernel
theorem d_RM_alter_55 : decode prog_13_method_33_code 55 = .ok (.getfield 32, 3) := by decide +kernel
theorem d_RM_alter_58 : decode prog_13_method_33_code 58 = .ok (.iload_n 1, 1) := by decide +kernel
theorem d_RM_alter_59 : decode prog_13_method_33_code 59 = .ok (.iload_n 2, 1) := by decide +kernel
theorem d_RM_alter_60 : decode prog_13_method_33_code 60 = .ok (.iastore, 1) := by decide +kernel
theorem d_RM_alter_61 : decode prog_13_method_33_code 61 = .ok (.iload_n 3, 1) := by decide +kernel
theorem d_RM_alter_62 : decode prog_13_method_33_code 62 = .ok (.ireturn, 1) := by decide +kernel
def f_RM_alter (k0 : Nat) (x1 : Int32) (x2 : Int32) (σ : Mem) : Option (Int32 × Mem) :=
  lt (mput σ k0 1 (if (f_RM_isIn x1 (0 : Int32) ((σ k0 19) - (1 : Int32)) σ) = 0 then (1 : Int32) else (if (f_RM_isIn x2 (0 : Int32) (255 : Int32) σ) = 0 then (2 : Int32) else (0 : Int32)))) fun σ5 =>
  if (σ5 k0 1) ≤ 0 then
  if inb x1 (wln (wtg k0 18)) = true then
  if inb x1 (wln (wtg k0 18)) = true then
  lt (mput σ5 (wtg k0 18) x1.toNatClampNeg x2) fun σ9 =>
  some ((σ5 (wtg k0 18) x1.toNatClampNeg), σ9)
  else none
  else none
  else
  some ((0 : Int32), σ5)
set_option maxHeartbeats 4000000 in
set_option maxRecDepth 100000 in
theorem w_RM_alter {F : Fx} (C : Ctx F prog_13_method_33_code 4 "LineFramesModel" (some .int) 1 22) {k0 : Nat} (h0k : Is k0 11) (x1 : Int32) (x2 : Int32) (σ : Mem) : J F 4 (cvO cvIM) (f_RM_alter k0 x1 x2 σ) σ 0 [(0, .ref (fad F k0)), (1, .int x1), (2, .int x2)] [] := by
  unfold f_RM_alter
  refine j_aload_n C d_RM_alter_0 0 rfl ?_
  refine j_iload_n C d_RM_alter_1 1 rfl ?_
  refine j_iconst (v := (0 : Int32)) C d_RM_alter_2 (by decide) ?_
  refine j_aload_n C d_RM_alter_3 0 rfl ?_
  refine j_getI C h0k fl_RM_207 rfl d_RM_alter_4 ?_
  refine j_iconst (v := (1 : Int32)) C d_RM_alter_7 (by decide) ?_
  refine j_isub C d_RM_alter_8 ?_
  refine j_callSi C ms_RM_93 [.int x1, .int (0 : Int32), .int ((σ k0 19) - (1 : Int32))] [.ref (fad F k0)] (c_RM_isIn x1 (0 : Int32) ((σ k0 19) - (1 : Int32)) σ) rfl rfl (by decide) (Nat.le_of_ble_eq_true rfl) d_RM_alter_9 ?_
  refine d_if_ne (a := (1 : Int32)) (b := (if (f_RM_isIn x2 (0 : Int32) (255 : Int32) σ) = 0 then (2 : Int32) else (0 : Int32))) (jp := 35) (tgt := 19) C d_RM_alter_12 (by decide) (fun c1 k2 => ?_) (fun c1 k2 => ?_) ?_
  · refine j_iload_n C d_RM_alter_19 2 rfl ?_
    refine j_iconst (v := (0 : Int32)) C d_RM_alter_20 (by decide) ?_
    refine j_sipush (v := (255 : Int32)) C d_RM_alter_21 (by decide) ?_
    refine j_callSi C ms_RM_93 [.int x2, .int (0 : Int32), .int (255 : Int32)] [.ref (fad F k0)] (c_RM_isIn x2 (0 : Int32) (255 : Int32) σ) rfl rfl (by decide) (Nat.le_of_ble_eq_true rfl) d_RM_alter_24 ?_
    refine d_if_ne (a := (2 : Int32)) (b := (0 : Int32)) (jp := 35) (tgt := 34) C d_RM_alter_27 (by decide) (fun c3 k4 => ?_) (fun c3 k4 => ?_) ?_
    · refine j_iconst (v := (0 : Int32)) C d_RM_alter_34 (by decide) ?_
      exact k4
    · refine j_iconst (v := (2 : Int32)) C d_RM_alter_30 (by decide) ?_
      refine j_goto (tgt := 35) C d_RM_alter_31 (by decide) ?_
      exact k4
    exact k2
  · refine j_iconst (v := (1 : Int32)) C d_RM_alter_15 (by decide) ?_
    refine j_goto (tgt := 35) C d_RM_alter_16 (by decide) ?_
    exact k2
  refine j_put C h0k fl_RM_90 fw_11_1 rfl rfl rfl d_RM_alter_35 (fun σ5 => ?_)
  refine j_aload_n C d_RM_alter_38 0 rfl ?_
  refine j_getI C h0k fl_RM_90 rfl d_RM_alter_39 ?_
  refine j_if_le (tgt := 47) C d_RM_alter_42 (by decide) (fun c6 => ?_) (fun c6 => ?_)
  · refine j_aload_n C d_RM_alter_47 0 rfl ?_
    refine j_getR C h0k fl_RM_32 rfl d_RM_alter_48 ?_
    refine j_iload_n C d_RM_alter_51 1 rfl ?_
    refine j_need rfl (fun g7 => ?_)
    refine j_iald C (tg_11_18 _ h0k) (inb_in g7) d_RM_alter_52 ?_
    refine j_istore_n (lv9 := [(0, .ref (fad F k0)), (1, .int x1), (2, .int x2), (3, .int (σ5 (wtg k0 18) x1.toNatClampNeg))]) C d_RM_alter_53 rfl rfl (by decide) ?_
    refine j_aload_n C d_RM_alter_54 0 rfl ?_
    refine j_getR C h0k fl_RM_32 rfl d_RM_alter_55 ?_
    refine j_iload_n C d_RM_alter_58 1 rfl ?_
    refine j_iload_n C d_RM_alter_59 2 rfl ?_
    refine j_need rfl (fun g8 => ?_)
    refine j_iast C (tg_11_18 _ h0k) (inb_in g8) d_RM_alter_60 (fun σ9 => ?_)
    refine j_iload_n C d_RM_alter_61 3 rfl ?_
    exact j_ireti C (fun ρ h => leaf_eq h) d_RM_alter_62
  · refine j_iconst (v := (0 : Int32)) C d_RM_alter_45 (by decide) ?_
    exact j_ireti C (fun ρ h => leaf_eq h) d_RM_alter_46
theorem c_RM_alter {l : Launch} {D : va_G} {G : GC} {ad : Nat → Nat} {k0 : Nat} (h0k : Is k0 11) (x1 : Int32) (x2 : Int32) (σ : Mem) {q : Int32 × Mem} (hq : f_RM_alter k0 x1 x2 σ = some q) : Ctr l D G ad ⟨"LineFramesModel", "alter", "(II)I"⟩ prog_13_method_33_code 4 (some .int) 1 22 [.ref (ad k0), .int x1, .int x2] σ (.inl (some (.int q.1)), q.2) := ctr_J (cv := (cvO cvIM)) (E := f_RM_alter k0 x1 x2 σ) (by decide +kernel) (Nat.le_of_ble_eq_true rfl) (by rw [hq]; rfl) (fun F h C => by subst h; exact w_RM_alter C h0k x1 x2 σ)
/-! LineFramesModel drop ()V -/
theorem d_RM_drop_0 : decode prog_13_method_34_code 0 = .ok (.aload_n 0, 1) := by decide +kernel
theorem d_RM_drop_1 : decode prog_13_method_34_code 1 = .ok (.iconst 0, 1) := by decide +kernel
theorem d_RM_drop_2 : decode prog_13_method_34_code 2 = .ok (.putfield 90, 3) := by decide +kernel
theorem d_RM_drop_5 : decode prog_13_method_34_code 5 = .ok (.aload_n 0, 1) := by decide +kernel
theorem d_RM_drop_6 : decode prog_13_method_34_code 6 = .ok (.iconst 0, 1) := by decide +kernel
theorem d_RM_drop_7 : decode prog_13_method_34_code 7 = .ok (.putfield 207, 3) := by decide +kernel
theorem d_RM_drop_10 : decode prog_13_method_34_code 10 = .ok (.return_, 1) := by decide +kernel
def f_RM_drop (k0 : Nat) (σ : Mem) : Mem :=
  lt (mput σ k0 1 (0 : Int32)) fun σ1 =>
  lt (mput σ1 k0 19 (0 : Int32)) fun σ2 =>
  σ2
set_option maxHeartbeats 4000000 in
set_option maxRecDepth 100000 in
theorem w_RM_drop {F : Fx} (C : Ctx F prog_13_method_34_code 1 "LineFramesModel" none 0 0) {k0 : Nat} (h0k : Is k0 11) (σ : Mem) : J F 1 cvM (f_RM_drop k0 σ) σ 0 [(0, .ref (fad F k0))] [] := by
  unfold f_RM_drop
  refine j_aload_n C d_RM_drop_0 0 rfl ?_
  refine j_iconst (v := (0 : Int32)) C d_RM_drop_1 (by decide) ?_
  refine j_put C h0k fl_RM_90 fw_11_1 rfl rfl rfl d_RM_drop_2 (fun σ1 => ?_)
  refine j_aload_n C d_RM_drop_5 0 rfl ?_
  refine j_iconst (v := (0 : Int32)) C d_RM_drop_6 (by decide) ?_
  refine j_put C h0k fl_RM_207 fw_11_19 rfl rfl rfl d_RM_drop_7 (fun σ2 => ?_)
  exact j_vret C (fun ρ h => leaf_eq h) d_RM_drop_10
theorem c_RM_drop {l : Launch} {D : va_G} {G : GC} {ad : Nat → Nat} {k0 : Nat} (h0k : Is k0 11) (σ : Mem) : Ctr l D G ad ⟨"LineFramesModel", "drop", "()V"⟩ prog_13_method_34_code 1 none 0 0 [.ref (ad k0)] σ (.inl none, (f_RM_drop k0 σ)) := ctr_J (cv := cvM) (E := f_RM_drop k0 σ) (by decide +kernel) (Nat.le_of_ble_eq_true rfl) rfl (fun F h C => by subst h; exact w_RM_drop C h0k σ)
/-! LineFramesModel clear ()V -/
theorem d_RM_clear_0 : decode prog_13_method_52_code 0 = .ok (.aload_n 0, 1) := by decide +kernel
theorem d_RM_clear_1 : decode prog_13_method_52_code 1 = .ok (.iconst 0, 1) := by decide +kernel
theorem d_RM_clear_2 : decode prog_13_method_52_code 2 = .ok (.putfield 210, 3) := by decide +kernel
theorem d_RM_clear_5 : decode prog_13_method_52_code 5 = .ok (.aload_n 0, 1) := by decide +kernel
theorem d_RM_clear_6 : decode prog_13_method_52_code 6 = .ok (.iconst 0, 1) := by decide +kernel
theorem d_RM_clear_7 : decode prog_13_method_52_code 7 = .ok (.putfield 213, 3) := by decide +kernel
theorem d_RM_clear_10 : decode prog_13_method_52_code 10 = .ok (.aload_n 0, 1) := by decide +kernel
theorem d_RM_clear_11 : decode prog_13_method_52_code 11 = .ok (.iconst 0, 1) := by decide +kernel
theorem d_RM_clear_12 : decode prog_13_method_52_code 12 = .ok (.putfield 281, 3) := by decide +kernel
theorem d_RM_clear_15 : decode prog_13_method_52_code 15 = .ok (.aload_n 0, 1) := by decide +kernel
theorem d_RM_clear_16 : decode prog_13_method_52_code 16 = .ok (.iconst 0, 1) := by decide +kernel
theorem d_RM_clear_17 : decode prog_13_method_52_code 17 = .ok (.putfield 296, 3) := by decide +kernel
theorem d_RM_clear_20 : decode prog_13_method_52_code 20 = .ok (.aload_n 0, 1) := by decide +kernel
theorem d_RM_clear_21 : decode prog_13_method_52_code 21 = .ok (.iconst 0, 1) := by decide +kernel
theorem d_RM_clear_22 : decode prog_13_method_52_code 22 = .ok (.putfield 216, 3) := by decide +kernel
theorem d_RM_clear_25 : decode prog_13_method_52_code 25 = .ok (.aload_n 0, 1) := by decide +kernel
theorem d_RM_clear_26 : decode prog_13_method_52_code 26 = .ok (.iconst 0, 1) := by decide +kernel
theorem d_RM_clear_27 : decode prog_13_method_52_code 27 = .ok (.putfield 223, 3) := by decide +kernel
theorem d_RM_clear_30 : decode prog_13_method_52_code 30 = .ok (.aload_n 0, 1) := by decide +kernel
theorem d_RM_clear_31 : decode prog_13_method_52_code 31 = .ok (.iconst 0, 1) := by decide +kernel
theorem d_RM_clear_32 : decode prog_13_method_52_code 32 = .ok (.putfield 227, 3) := by decide +kernel
theorem d_RM_clear_35 : decode prog_13_method_52_code 35 = .ok (.aload_n 0, 1) := by decide +kernel
theorem d_RM_clear_36 : decode prog_13_method_52_code 36 = .ok (.bipush 64, 2) := by decide +kernel
theorem d_RM_clear_38 : decode prog_13_method_52_code 38 = .ok (.putfield 245, 3) := by decide +kernel
theorem d_RM_clear_41 : decode prog_13_method_52_code 41 = .ok (.aload_n 0, 1) := by decide +kernel
theorem d_RM_clear_42 : decode prog_13_method_52_code 42 = .ok (.iconst 4, 1) := by decide +kernel
theorem d_RM_clear_43 : decode prog_13_method_52_code 43 = .ok (.putfield 248, 3) := by decide +kernel
theorem d_RM_clear_46 : decode prog_13_method_52_code 46 = .ok (.aload_n 0, 1) := by decide +kernel
theorem d_RM_clear_47 : decode prog_13_method_52_code 47 = .ok (.iconst 0, 1) := by decide +kernel
theorem d_RM_clear_48 : decode prog_13_method_52_code 48 = .ok (.putfield 251, 3) := by decide +kernel
theorem d_RM_clear_51 : decode prog_13_method_52_code 51 = .ok (.aload_n 0, 1) := by decide +kernel
theorem d_RM_clear_52 : decode prog_13_method_52_code 52 = .ok (.iconst 0, 1) := by decide +kernel
theorem d_RM_clear_53 : decode prog_13_method_52_code 53 = .ok (.putfield 233, 3) := by decide +kernel
theorem d_RM_clear_56 : decode prog_13_method_52_code 56 = .ok (.iconst 0, 1) := by decide +kernel
theorem d_RM_clear_57 : decode prog_13_method_52_code 57 = .ok (.istore_n 1, 1) := by decide +kernel
theorem d_RM_clear_58 : decode prog_13_method_52_code 58 = .ok (.iload_n 1, 1) := by decide +kernel
theorem d_RM_clear_59 : decode prog_13_method_52_code 59 = .ok (.iconst 4, 1) := by decide +kernel
theorem d_RM_clear_60 : decode prog_13_method_52_code 60 = .ok (.if_icmp .ge 23, 3) := by decide +kernel
theorem d_RM_clear_63 : decode prog_13_method_52_code 63 = .ok (.aload_n 0, 1) := by decide +kernel
theorem d_RM_clear_64 : decode prog_13_method_52_code 64 = .ok (.getfield 59, 3) := by decide +kernel
theorem d_RM_clear_67 : decode prog_13_method_52_code 67 = .ok (.iload_n 1, 1) := by decide +kernel
theorem d_RM_clear_68 : decode prog_13_method_52_code 68 = .ok (.iconst 0, 1) := by decide +kernel
theorem d_RM_clear_69 : decode prog_13_method_52_code 69 = .ok (.bastore, 1) := by decide +kernel
theorem d_RM_clear_70 : decode prog_13_method_52_code 70 = .ok (.aload_n 0, 1) := by decide +kernel
theorem d_RM_clear_71 : decode prog_13_method_52_code 71 = .ok (.getfield 74, 3) := by decide +kernel
theorem d_RM_clear_74 : decode prog_13_method_52_code 74 = .ok (.iload_n 1, 1) := by decide +kernel
theorem d_RM_clear_75 : decode prog_13_method_52_code 75 = .ok (.iconst 0, 1) := by decide +kernel
theorem d_RM_clear_76 : decode prog_13_method_52_code 76 = .ok (.bastore, 1) := by decide +kernel
theorem d_RM_clear_77 : decode prog_13_method_52_code 77 = .ok (.iinc 1 1, 3) := by decide +kernel
theorem d_RM_clear_80 : decode prog_13_method_52_code 80 = .ok (.goto (-22), 3) := by decide +kernel
theorem d_RM_clear_83 : decode prog_13_method_52_code 83 = .ok (.return_, 1) := by decide +kernel
def L_RM_clear_58 (r0 : Nat) : Nat → Int32 → Mem →  Option (Int32 × Mem)
  | 0, _, _ => none
  | n + 1, a1, σ =>
  if (4 : Int32) ≤ a1 then
  some (a1, σ)
  else
  if inb a1 (wln (wtg r0 45)) = true then
  lt (mput σ (wtg r0 45) a1.toNatClampNeg (nz (0 : Int32))) fun σ14 =>
  if inb a1 (wln (wtg r0 50)) = true then
  lt (mput σ14 (wtg r0 50) a1.toNatClampNeg (nz (0 : Int32))) fun σ16 =>
  L_RM_clear_58 r0 n (a1 + (1 : Int32)) σ16
  else none
  else none
def f_RM_clear (k0 : Nat) (σ : Mem) : Option (Mem) :=
  lt (mput σ k0 28 (0 : Int32)) fun σ1 =>
  lt (mput σ1 k0 29 (0 : Int32)) fun σ2 =>
  lt (mput σ2 k0 30 (0 : Int32)) fun σ3 =>
  lt (mput σ3 k0 31 (0 : Int32)) fun σ4 =>
  lt (mput σ4 k0 32 (0 : Int32)) fun σ5 =>
  lt (mput σ5 k0 33 (0 : Int32)) fun σ6 =>
  lt (mput σ6 k0 37 (0 : Int32)) fun σ7 =>
  lt (mput σ7 k0 38 (64 : Int32)) fun σ8 =>
  lt (mput σ8 k0 39 (4 : Int32)) fun σ9 =>
  lt (mput σ9 k0 40 (0 : Int32)) fun σ10 =>
  lt (mput σ10 k0 41 (0 : Int32)) fun σ11 =>
  (L_RM_clear_58 k0 9999 (0 : Int32) σ11).bind fun q17 =>
  some (q17.2)
set_option maxHeartbeats 4000000 in
set_option maxRecDepth 100000 in
theorem wL_RM_clear_58 {F : Fx} (C : Ctx F prog_13_method_52_code 2 "LineFramesModel" none 0 0) {cv : Option (Int32 × Mem) → Option Rs} (h0 : cv none = none) (r0 : Nat) (hr0 : Is r0 11) (hex : ∀ q : Int32 × Mem, J F 2 cv (some q) q.2 83 [(0, .ref (fad F r0)), (1, .int q.1)] []) : ∀ (n : Nat) (a1 : Int32) (σ : Mem), J F 2 cv (L_RM_clear_58 r0 n a1 σ) σ 58 [(0, .ref (fad F r0)), (1, .int a1)] [] := by
  intro n
  induction n with
  | zero => intro a1 σ hE; rw [L_RM_clear_58, h0] at hE; cases hE
  | succ n ih =>
    intro a1 σ
    rw [L_RM_clear_58]
    refine j_iload_n C d_RM_clear_58 1 rfl ?_
    refine j_iconst (v := (4 : Int32)) C d_RM_clear_59 (by decide) ?_
    refine j_icmp_ge (tgt := 83) C d_RM_clear_60 (by decide) (fun c12 => ?_) (fun c12 => ?_)
    · exact hex (a1, σ)
    · refine j_aload_n C d_RM_clear_63 0 rfl ?_
      refine j_getR C hr0 fl_RM_59 rfl d_RM_clear_64 ?_
      refine j_iload_n C d_RM_clear_67 1 rfl ?_
      refine j_iconst (v := (0 : Int32)) C d_RM_clear_68 (by decide) ?_
      refine j_need (by exact h0) (fun g13 => ?_)
      refine j_zast C (tg_11_45 _ hr0) (inb_in g13) d_RM_clear_69 (fun σ14 => ?_)
      refine j_aload_n C d_RM_clear_70 0 rfl ?_
      refine j_getR C hr0 fl_RM_74 rfl d_RM_clear_71 ?_
      refine j_iload_n C d_RM_clear_74 1 rfl ?_
      refine j_iconst (v := (0 : Int32)) C d_RM_clear_75 (by decide) ?_
      refine j_need (by exact h0) (fun g15 => ?_)
      refine j_zast C (tg_11_50 _ hr0) (inb_in g15) d_RM_clear_76 (fun σ16 => ?_)
      refine j_iinc (v := (a1 + (1 : Int32))) (lv9 := [(0, .ref (fad F r0)), (1, .int (a1 + (1 : Int32)))]) C d_RM_clear_77 1 rfl rfl rfl rfl (by decide) ?_
      refine j_goto (tgt := 58) C d_RM_clear_80 (by decide) ?_
      exact ih (a1 + (1 : Int32)) σ16
set_option maxHeartbeats 4000000 in
set_option maxRecDepth 100000 in
theorem w_RM_clear {F : Fx} (C : Ctx F prog_13_method_52_code 2 "LineFramesModel" none 0 0) {k0 : Nat} (h0k : Is k0 11) (σ : Mem) : J F 2 (cvO cvM) (f_RM_clear k0 σ) σ 0 [(0, .ref (fad F k0))] [] := by
  unfold f_RM_clear
  refine j_aload_n C d_RM_clear_0 0 rfl ?_
  refine j_iconst (v := (0 : Int32)) C d_RM_clear_1 (by decide) ?_
  refine j_put C h0k fl_RM_210 fw_11_28 rfl rfl rfl d_RM_clear_2 (fun σ1 => ?_)
  refine j_aload_n C d_RM_clear_5 0 rfl ?_
  refine j_iconst (v := (0 : Int32)) C d_RM_clear_6 (by decide) ?_
  refine j_put C h0k fl_RM_213 fw_11_29 rfl rfl rfl d_RM_clear_7 (fun σ2 => ?_)
  refine j_aload_n C d_RM_clear_10 0 rfl ?_
  refine j_iconst (v := (0 : Int32)) C d_RM_clear_11 (by decide) ?_
  refine j_put C h0k fl_RM_281 fw_11_30 rfl rfl rfl d_RM_clear_12 (fun σ3 => ?_)
  refine j_aload_n C d_RM_clear_15 0 rfl ?_
  refine j_iconst (v := (0 : Int32)) C d_RM_clear_16 (by decide) ?_
  refine j_put C h0k fl_RM_296 fw_11_31 rfl rfl rfl d_RM_clear_17 (fun σ4 => ?_)
  refine j_aload_n C d_RM_clear_20 0 rfl ?_
  refine j_iconst (v := (0 : Int32)) C d_RM_clear_21 (by decide) ?_
  refine j_put C h0k fl_RM_216 fw_11_32 rfl rfl rfl d_RM_clear_22 (fun σ5 => ?_)
  refine j_aload_n C d_RM_clear_25 0 rfl ?_
  refine j_iconst (v := (0 : Int32)) C d_RM_clear_26 (by decide) ?_
  refine j_put C h0k fl_RM_223 fw_11_33 rfl (nz01 (Or.inl rfl)) rfl d_RM_clear_27 (fun σ6 => ?_)
  refine j_aload_n C d_RM_clear_30 0 rfl ?_
  refine j_iconst (v := (0 : Int32)) C d_RM_clear_31 (by decide) ?_
  refine j_put C h0k fl_RM_227 fw_11_37 rfl rfl rfl d_RM_clear_32 (fun σ7 => ?_)
  refine j_aload_n C d_RM_clear_35 0 rfl ?_
  refine j_bipush (v := (64 : Int32)) C d_RM_clear_36 (by decide) ?_
  refine j_put C h0k fl_RM_245 fw_11_38 rfl rfl rfl d_RM_clear_38 (fun σ8 => ?_)
  refine j_aload_n C d_RM_clear_41 0 rfl ?_
  refine j_iconst (v := (4 : Int32)) C d_RM_clear_42 (by decide) ?_
  refine j_put C h0k fl_RM_248 fw_11_39 rfl rfl rfl d_RM_clear_43 (fun σ9 => ?_)
  refine j_aload_n C d_RM_clear_46 0 rfl ?_
  refine j_iconst (v := (0 : Int32)) C d_RM_clear_47 (by decide) ?_
  refine j_put C h0k fl_RM_251 fw_11_40 rfl rfl rfl d_RM_clear_48 (fun σ10 => ?_)
  refine j_aload_n C d_RM_clear_51 0 rfl ?_
  refine j_iconst (v := (0 : Int32)) C d_RM_clear_52 (by decide) ?_
  refine j_put C h0k fl_RM_233 fw_11_41 rfl rfl rfl d_RM_clear_53 (fun σ11 => ?_)
  refine j_iconst (v := (0 : Int32)) C d_RM_clear_56 (by decide) ?_
  refine j_istore_n (lv9 := [(0, .ref (fad F k0)), (1, .int (0 : Int32))]) C d_RM_clear_57 rfl rfl (by decide) ?_
  refine j_loop (wL_RM_clear_58 C rfl k0 h0k (fun q17 => j_some ?_) 9999 (0 : Int32) σ11)
  exact j_vret C (fun ρ h => leaf_eq h) d_RM_clear_83
theorem c_RM_clear {l : Launch} {D : va_G} {G : GC} {ad : Nat → Nat} {k0 : Nat} (h0k : Is k0 11) (σ : Mem) {q : Mem} (hq : f_RM_clear k0 σ = some q) : Ctr l D G ad ⟨"LineFramesModel", "clear", "()V"⟩ prog_13_method_52_code 2 none 0 0 [.ref (ad k0)] σ (.inl none, q) := ctr_J (cv := (cvO cvM)) (E := f_RM_clear k0 σ) (by decide +kernel) (Nat.le_of_ble_eq_true rfl) (by rw [hq]; rfl) (fun F h C => by subst h; exact w_RM_clear C h0k σ)
/-! LineFramesModel broken (II)Z -/
theorem d_RM_broken_0 : decode prog_13_method_35_code 0 = .ok (.aload_n 0, 1) := by decide +kernel
theorem d_RM_broken_1 : decode prog_13_method_35_code 1 = .ok (.getfield 210, 3) := by decide +kernel
theorem d_RM_broken_4 : decode prog_13_method_35_code 4 = .ok (.ifCond .ne 13, 3) := by decide +kernel
theorem d_RM_broken_7 : decode prog_13_method_35_code 7 = .ok (.aload_n 0, 1) := by decide +kernel
theorem d_RM_broken_8 : decode prog_13_method_35_code 8 = .ok (.iload_n 1, 1) := by decide +kernel
theorem d_RM_broken_9 : decode prog_13_method_35_code 9 = .ok (.putfield 210, 3) := by decide +kernel
theorem d_RM_broken_12 : decode prog_13_method_35_code 12 = .ok (.aload_n 0, 1) := by decide +kernel
theorem d_RM_broken_13 : decode prog_13_method_35_code 13 = .ok (.iload_n 2, 1) := by decide +kernel
theorem d_RM_broken_14 : decode prog_13_method_35_code 14 = .ok (.putfield 213, 3) := by decide +kernel
theorem d_RM_broken_17 : decode prog_13_method_35_code 17 = .ok (.iconst 0, 1) := by decide +kernel
theorem d_RM_broken_18 : decode prog_13_method_35_code 18 = .ok (.ireturn, 1) := by decide +kernel
def f_RM_broken (k0 : Nat) (x1 : Int32) (x2 : Int32) (σ : Mem) : Int32 × Mem :=
  if (σ k0 28) = 0 then
  lt (mput σ k0 28 x1) fun σ6 =>
  lt (mput σ6 k0 29 x2) fun σ7 =>
  ((0 : Int32), σ7)
  else
  ((0 : Int32), σ)
set_option maxHeartbeats 4000000 in
set_option maxRecDepth 100000 in
theorem w_RM_broken {F : Fx} (C : Ctx F prog_13_method_35_code 3 "LineFramesModel" (some .boolean) 0 0) {k0 : Nat} (h0k : Is k0 11) (x1 : Int32) (x2 : Int32) (σ : Mem) : J F 3 cvIM (f_RM_broken k0 x1 x2 σ) σ 0 [(0, .ref (fad F k0)), (1, .int x1), (2, .int x2)] [] := by
  unfold f_RM_broken
  refine j_aload_n C d_RM_broken_0 0 rfl ?_
  refine j_getI C h0k fl_RM_210 rfl d_RM_broken_1 ?_
  refine j_if_ne (tgt := 17) C d_RM_broken_4 (by decide) (fun c5 => ?_) (fun c5 => ?_)
  · refine j_iconst (v := (0 : Int32)) C d_RM_broken_17 (by decide) ?_
    exact j_iretz C (fun ρ h => leaf_eq h) (nz01 (Or.inl rfl)) d_RM_broken_18
  · refine j_aload_n C d_RM_broken_7 0 rfl ?_
    refine j_iload_n C d_RM_broken_8 1 rfl ?_
    refine j_put C h0k fl_RM_210 fw_11_28 rfl rfl rfl d_RM_broken_9 (fun σ6 => ?_)
    refine j_aload_n C d_RM_broken_12 0 rfl ?_
    refine j_iload_n C d_RM_broken_13 2 rfl ?_
    refine j_put C h0k fl_RM_213 fw_11_29 rfl rfl rfl d_RM_broken_14 (fun σ7 => ?_)
    refine j_iconst (v := (0 : Int32)) C d_RM_broken_17 (by decide) ?_
    exact j_iretz C (fun ρ h => leaf_eq h) (nz01 (Or.inl rfl)) d_RM_broken_18
theorem c_RM_broken {l : Launch} {D : va_G} {G : GC} {ad : Nat → Nat} {k0 : Nat} (h0k : Is k0 11) (x1 : Int32) (x2 : Int32) (σ : Mem) : Ctr l D G ad ⟨"LineFramesModel", "broken", "(II)Z"⟩ prog_13_method_35_code 3 (some .boolean) 0 0 [.ref (ad k0), .int x1, .int x2] σ (.inl (some (.int (f_RM_broken k0 x1 x2 σ).1)), (f_RM_broken k0 x1 x2 σ).2) := ctr_J (cv := cvIM) (E := f_RM_broken k0 x1 x2 σ) (by decide +kernel) (Nat.le_of_ble_eq_true rfl) rfl (fun F h C => by subst h; exact w_RM_broken C h0k x1 x2 σ)
theorem z_RM_broken (k0 : Nat) (x1 : Int32) (x2 : Int32) (σ : Mem) : (f_RM_broken k0 x1 x2 σ).1 = 0 ∨ (f_RM_broken k0 x1 x2 σ).1 = 1 := by
  unfold f_RM_broken
  try simp only [lt]
  repeat' split
  all_goals first | exact Or.inl rfl | exact Or.inr rfl
/-! LineFramesModel isMark ()Z -/
theorem d_RM_isMark_0 : decode prog_13_method_37_code 0 = .ok (.aload_n 0, 1) := by decide +kernel
theorem d_RM_isMark_1 : decode prog_13_method_37_code 1 = .ok (.getfield 207, 3) := by decide +kernel
theorem d_RM_isMark_4 : decode prog_13_method_37_code 4 = .ok (.aload_n 0, 1) := by decide +kernel
theorem d_RM_isMark_5 : decode prog_13_method_37_code 5 = .ok (.getfield 216, 3) := by decide +kernel
theorem d_RM_isMark_8 : decode prog_13_method_37_code 8 = .ok (.isub, 1) := by decide +kernel
theorem d_RM_isMark_9 : decode prog_13_method_37_code 9 = .ok (.iconst 2, 1) := by decide +kernel
theorem d_RM_isMark_10 : decode prog_13_method_37_code 10 = .ok (.if_icmp .ge 13, 3) := by decide +kernel
theorem d_RM_isMark_13 : decode prog_13_method_37_code 13 = .ok (.aload_n 0, 1) := by decide +kernel
theorem d_RM_isMark_14 : decode prog_13_method_37_code 14 = .ok (.iconst 1, 1) := by decide +kernel
theorem d_RM_isMark_15 : decode prog_13_method_37_code 15 = .ok (.aload_n 0, 1) := by decide +kernel
theorem d_RM_isMark_16 : decode prog_13_method_37_code 16 = .ok (.getfield 207, 3) := by decide +kernel
theorem d_RM_isMark_19 : decode prog_13_method_37_code 19 = .ok (.invokevirtual 219, 3) := by decide +kernel
theorem d_RM_isMark_22 : decode prog_13_method_37_code 22 = .ok (.ireturn, 1) := by decide +kernel
theorem d_RM_isMark_23 : decode prog_13_method_37_code 23 = .ok (.aload_n 0, 1) := by decide +kernel
theorem d_RM_isMark_24 : decode prog_13_method_37_code 24 = .ok (.getfield 32, 3) := by decide +kernel
theorem d_RM_isMark_27 : decode prog_13_method_37_code 27 = .ok (.aload_n 0, 1) := by decide +kernel
theorem d_RM_isMark_28 : decode prog_13_method_37_code 28 = .ok (.getfield 216, 3) := by decide +kernel
theorem d_RM_isMark_31 : decode prog_13_method_37_code 31 = .ok (.iconst 1, 1) := by decide +kernel
theorem d_RM_isMark_32 : decode prog_13_method_37_code 32 = .ok (.iadd, 1) := by decide +kernel
theorem d_RM_isMark_33 : decode prog_13_method_37_code 33 = .ok (.iaload, 1) := by decide +kernel
theorem d_RM_isMark_34 : decode prog_13_method_37_code 34 = .ok (.istore_n 1, 1) := by decide +kernel
theorem d_RM_isMark_35 : decode prog_13_method_37_code 35 = .ok (.iload_n 1, 1) := by decide +kernel
theorem d_RM_isMark_36 : decode prog_13_method_37_code 36 = .ok (.sipush 224, 3) := by decide +kernel
theorem d_RM_isMark_39 : decode prog_13_method_37_code 39 = .ok (.sipush 239, 3) := by decide +kernel
theorem d_RM_isMark_42 : decode prog_13_method_37_code 42 = .ok (.invokestatic 93, 3) := by decide +kernel
theorem d_RM_isMark_45 : decode prog_13_method_37_code 45 = .ok (.ifCond .ne 52, 3) := by decide +kernel
theorem d_RM_isMark_48 : decode prog_13_method_37_code 48 = .ok (.iload_n 1, 1) := by decide +kernel
theorem d_RM_isMark_49 : decode prog_13_method_37_code 49 = .ok (.sipush 254, 3) := by decide +kernel
theorem d_RM_isMark_52 : decode prog_13_method_37_code 52 = .ok (.if_icmp .eq 45, 3) := by decide +kernel
theorem d_RM_isMark_55 : decode prog_13_method_37_code 55 = .ok (.iload_n 1, 1) := by decide +kernel
theorem d_RM_isMark_56 : decode prog_13_method_37_code 56 = .ok (.sipush 247, 3) := by decide +kernel
theorem d_RM_isMark_59 : decode prog_13_method_37_code 59 = .ok (.if_icmp .eq 38, 3) := by decide +kernel
theorem d_RM_isMark_62 : decode prog_13_method_37_code 62 = .ok (.iload_n 1, 1) := by decide +kernel
theorem d_RM_isMark_63 : decode prog_13_method_37_code 63 = .ok (.sipush 248, 3) := by decide +kernel
theorem d_RM_isMark_66 : decode prog_13_method_37_code 66 = .ok (.if_icmp .eq 31, 3) := by decide +kernel
theorem d_RM_isMark_69 : decode prog_13_method_37_code 69 = .ok (.iload_n 1, 1) := by decide +kernel
theorem d_RM_isMark_70 : decode prog_13_method_37_code 70 = .ok (.sipush 221, 3) := by decide +kernel
theorem d_RM_isMark_73 : decode prog_13_method_37_code 73 = .ok (.if_icmp .eq 24, 3) := by decide +kernel
theorem d_RM_isMark_76 : decode prog_13_method_37_code 76 = .ok (.iload_n 1, 1) := by decide +kernel
theorem d_RM_isMark_77 : decode prog_13_method_37_code 77 = .ok (.sipush 218, 3) := by decide +kernel
theorem d_RM_isMark_80 : decode prog_13_method_37_code 80 = .ok (.if_icmp .eq 17, 3) := by decide +kernel
theorem d_RM_isMark_83 : decode prog_13_method_37_code 83 = .ok (.iload_n 1, 1) := by decide +kernel
theorem d_RM_isMark_84 : decode prog_13_method_37_code 84 = .ok (.sipush 217, 3) := by decide +kernel
theorem d_RM_isMark_87 : decode prog_13_method_37_code 87 = .ok (.if_icmp .eq 10, 3) := by decide +kernel
theorem d_RM_isMark_90 : decode prog_13_method_37_code 90 = .ok (.iload_n 1, 1) := by decide +kernel
theorem d_RM_isMark_91 : decode prog_13_method_37_code 91 = .ok (.sipush 216, 3) := by decide +kernel
theorem d_RM_isMark_94 : decode prog_13_method_37_code 94 = .ok (.if_icmp .ne 7, 3) := by decide +kernel
theorem d_RM_isMark_97 : decode prog_13_method_37_code 97 = .ok (.iconst 1, 1) := by decide +kernel
theorem d_RM_isMark_98 : decode prog_13_method_37_code 98 = .ok (.goto 4, 3) := by decide +kernel
theorem d_RM_isMark_101 : decode prog_13_method_37_code 101 = .ok (.iconst 0, 1) := by decide +kernel
theorem d_RM_isMark_102 : decode prog_13_method_37_code 102 = .ok (.istore_n 2, 1) := by decide +kernel
theorem d_RM_isMark_103 : decode prog_13_method_37_code 103 = .ok (.aload_n 0, 1) := by decide +kernel
theorem d_RM_isMark_104 : decode prog_13_method_37_code 104 = .ok (.getfield 32, 3) := by decide +kernel
theorem d_RM_isMark_107 : decode prog_13_method_37_code 107 = .ok (.aload_n 0, 1) := by decide +kernel
theorem d_RM_isMark_108 : decode prog_13_method_37_code 108 = .ok (.getfield 216, 3) := by decide +kernel
theorem d_RM_isMark_111 : decode prog_13_method_37_code 111 = .ok (.iaload, 1) := by decide +kernel
theorem d_RM_isMark_112 : decode prog_13_method_37_code 112 = .ok (.sipush 255, 3) := by decide +kernel
theorem d_RM_isMark_115 : decode prog_13_method_37_code 115 = .ok (.if_icmp .ne 34, 3) := by decide +kernel
theorem d_RM_isMark_118 : decode prog_13_method_37_code 118 = .ok (.iload_n 2, 1) := by decide +kernel
theorem d_RM_isMark_119 : decode prog_13_method_37_code 119 = .ok (.ifCond .eq 30, 3) := by decide +kernel
theorem d_RM_isMark_122 : decode prog_13_method_37_code 122 = .ok (.aload_n 0, 1) := by decide +kernel
theorem d_RM_isMark_123 : decode prog_13_method_37_code 123 = .ok (.getfield 216, 3) := by decide +kernel
theorem d_RM_isMark_126 : decode prog_13_method_37_code 126 = .ok (.ifCond .ne 7, 3) := by decide +kernel
theorem d_RM_isMark_129 : decode prog_13_method_37_code 129 = .ok (.iconst 1, 1) := by decide +kernel
theorem d_RM_isMark_130 : decode prog_13_method_37_code 130 = .ok (.goto 4, 3) := by decide +kernel
theorem d_RM_isMark_133 : decode prog_13_method_37_code 133 = .ok (.iconst 0, 1) := by decide +kernel
theorem d_RM_isMark_134 : decode prog_13_method_37_code 134 = .ok (.iload_n 1, 1) := by decide +kernel
theorem d_RM_isMark_135 : decode prog_13_method_37_code 135 = .ok (.sipush 216, 3) := by decide +kernel
theorem d_RM_isMark_138 : decode prog_13_method_37_code 138 = .ok (.if_icmp .ne 7, 3) := by decide +kernel
theorem d_RM_isMark_141 : decode prog_13_method_37_code 141 = .ok (.iconst 1, 1) := by decide +kernel
theorem d_RM_isMark_142 : decode prog_13_method_37_code 142 = .ok (.goto 4, 3) := by decide +kernel
theorem d_RM_isMark_145 : decode prog_13_method_37_code 145 = .ok (.iconst 0, 1) := by decide +kernel
theorem d_RM_isMark_146 : decode prog_13_method_37_code 146 = .ok (.if_icmp .eq 13, 3) := by decide +kernel
theorem d_RM_isMark_149 : decode prog_13_method_37_code 149 = .ok (.aload_n 0, 1) := by decide +kernel
theorem d_RM_isMark_150 : decode prog_13_method_37_code 150 = .ok (.iconst 2, 1) := by decide +kernel
theorem d_RM_isMark_151 : decode prog_13_method_37_code 151 = .ok (.aload_n 0, 1) := by decide +kernel
theorem d_RM_isMark_152 : decode prog_13_method_37_code 152 = .ok (.getfield 216, 3) := by decide +kernel
theorem d_RM_isMark_155 : decode prog_13_method_37_code 155 = .ok (.invokevirtual 219, 3) := by decide +kernel
theorem d_RM_isMark_158 : decode prog_13_method_37_code 158 = .ok (.ireturn, 1) := by decide +kernel
theorem d_RM_isMark_159 : decode prog_13_method_37_code 159 = .ok (.iconst 0, 1) := by decide +kernel
theorem d_RM_isMark_160 : decode prog_13_method_37_code 160 = .ok (.istore_n 3, 1) := by decide +kernel
theorem d_RM_isMark_161 : decode prog_13_method_37_code 161 = .ok (.aload_n 0, 1) := by decide +kernel
theorem d_RM_isMark_162 : decode prog_13_method_37_code 162 = .ok (.getfield 223, 3) := by decide +kernel
theorem d_RM_isMark_165 : decode prog_13_method_37_code 165 = .ok (.istore 4, 2) := by decide +kernel
theorem d_RM_isMark_167 : decode prog_13_method_37_code 167 = .ok (.iconst 0, 1) := by decide +kernel
theorem d_RM_isMark_168 : decode prog_13_method_37_code 168 = .ok (.istore 5, 2) := by decide +kernel
theorem d_RM_isMark_170 : decode prog_13_method_37_code 170 = .ok (.iload 5, 2) := by decide +kernel
theorem d_RM_isMark_172 : decode prog_13_method_37_code 172 = .ok (.aload_n 0, 1) := by decide +kernel
theorem d_RM_isMark_173 : decode prog_13_method_37_code 173 = .ok (.getfield 227, 3) := by decide +kernel
theorem d_RM_isMark_176 : decode prog_13_method_37_code 176 = .ok (.if_icmp .ge 51, 3) := by decide +kernel
theorem d_RM_isMark_179 : decode prog_13_method_37_code 179 = .ok (.iload_n 3, 1) := by decide +kernel
theorem d_RM_isMark_180 : decode prog_13_method_37_code 180 = .ok (.ifCond .ne 13, 3) := by decide +kernel
theorem d_RM_isMark_183 : decode prog_13_method_37_code 183 = .ok (.aload_n 0, 1) := by decide +kernel
theorem d_RM_isMark_184 : decode prog_13_method_37_code 184 = .ok (.getfield 74, 3) := by decide +kernel
theorem d_RM_isMark_187 : decode prog_13_method_37_code 187 = .ok (.iload 5, 2) := by decide +kernel
theorem d_RM_isMark_189 : decode prog_13_method_37_code 189 = .ok (.baload, 1) := by decide +kernel
theorem d_RM_isMark_190 : decode prog_13_method_37_code 190 = .ok (.ifCond .eq 7, 3) := by decide +kernel
theorem d_RM_isMark_193 : decode prog_13_method_37_code 193 = .ok (.iconst 1, 1) := by decide +kernel
theorem d_RM_isMark_194 : decode prog_13_method_37_code 194 = .ok (.goto 4, 3) := by decide +kernel
theorem d_RM_isMark_197 : decode prog_13_method_37_code 197 = .ok (.iconst 0, 1) := by decide +kernel
theorem d_RM_isMark_198 : decode prog_13_method_37_code 198 = .ok (.istore_n 3, 1) := by decide +kernel
theorem d_RM_isMark_199 : decode prog_13_method_37_code 199 = .ok (.iload 4, 2) := by decide +kernel
theorem d_RM_isMark_201 : decode prog_13_method_37_code 201 = .ok (.ifCond .eq 17, 3) := by decide +kernel
theorem d_RM_isMark_204 : decode prog_13_method_37_code 204 = .ok (.aload_n 0, 1) := by decide +kernel
theorem d_RM_isMark_205 : decode prog_13_method_37_code 205 = .ok (.getfield 74, 3) := by decide +kernel
theorem d_RM_isMark_208 : decode prog_13_method_37_code 208 = .ok (.iload 5, 2) := by decide +kernel
theorem d_RM_isMark_210 : decode prog_13_method_37_code 210 = .ok (.baload, 1) := by decide +kernel
theorem d_RM_isMark_211 : decode prog_13_method_37_code 211 = .ok (.ifCond .eq 7, 3) := by decide +kernel
theorem d_RM_isMark_214 : decode prog_13_method_37_code 214 = .ok (.iconst 1, 1) := by decide +kernel
theorem d_RM_isMark_215 : decode prog_13_method_37_code 215 = .ok (.goto 4, 3) := by decide +kernel
theorem d_RM_isMark_218 : decode prog_13_method_37_code 218 = .ok (.iconst 0, 1) := by decide +kernel
theorem d_RM_isMark_219 : decode prog_13_method_37_code 219 = .ok (.istore 4, 2) := by decide +kernel
theorem d_RM_isMark_221 : decode prog_13_method_37_code 221 = .ok (.iinc 5 1, 3) := by decide +kernel
theorem d_RM_isMark_224 : decode prog_13_method_37_code 224 = .ok (.goto (-54), 3) := by decide +kernel
theorem d_RM_isMark_227 : decode prog_13_method_37_code 227 = .ok (.iload_n 1, 1) := by decide +kernel
theorem d_RM_isMark_228 : decode prog_13_method_37_code 228 = .ok (.sipush 248, 3) := by decide +kernel
theorem d_RM_isMark_231 : decode prog_13_method_37_code 231 = .ok (.if_icmp .eq 17, 3) := by decide +kernel
theorem d_RM_isMark_234 : decode prog_13_method_37_code 234 = .ok (.iload_n 1, 1) := by decide +kernel
theorem d_RM_isMark_235 : decode prog_13_method_37_code 235 = .ok (.sipush 221, 3) := by decide +kernel
theorem d_RM_isMark_238 : decode prog_13_method_37_code 238 = .ok (.if_icmp .eq 10, 3) := by decide +kernel
theorem d_RM_isMark_241 : decode prog_13_method_37_code 241 = .ok (.iload_n 1, 1) := by decide +kernel
theorem d_RM_isMark_242 : decode prog_13_method_37_code 242 = .ok (.sipush 218, 3) := by decide +kernel
theorem d_RM_isMark_245 : decode prog_13_method_37_code 245 = .ok (.if_icmp .ne 14, 3) := by decide +kernel
theorem d_RM_isMark_248 : decode prog_13_method_37_code 248 = .ok (.aload_n 0, 1) := by decide +kernel
theorem d_RM_isMark_249 : decode prog_13_method_37_code 249 = .ok (.getfield 223, 3) := by decide +kernel
theorem d_RM_isMark_252 : decode prog_13_method_37_code 252 = .ok (.ifCond .ne 7, 3) := by decide +kernel
theorem d_RM_isMark_255 : decode prog_13_method_37_code 255 = .ok (.iconst 1, 1) := by decide +kernel
theorem d_RM_isMark_256 : decode prog_13_method_37_code 256 = .ok (.goto 4, 3) := by decide +kernel
theorem d_RM_isMark_259 : decode prog_13_method_37_code 259 = .ok (.iconst 0, 1) := by decide +kernel
theorem d_RM_isMark_260 : decode prog_13_method_37_code 260 = .ok (.istore 5, 2) := by decide +kernel
theorem d_RM_isMark_262 : decode prog_13_method_37_code 262 = .ok (.iload_n 1, 1) := by decide +kernel
theorem d_RM_isMark_263 : decode prog_13_method_37_code 263 = .ok (.sipush 248, 3) := by decide +kernel
theorem d_RM_isMark_266 : decode prog_13_method_37_code 266 = .ok (.if_icmp .eq 10, 3) := by decide +kernel
theorem d_RM_isMark_269 : decode prog_13_method_37_code 269 = .ok (.iload_n 1, 1) := by decide +kernel
theorem d_RM_isMark_270 : decode prog_13_method_37_code 270 = .ok (.sipush 221, 3) := by decide +kernel
theorem d_RM_isMark_273 : decode prog_13_method_37_code 273 = .ok (.if_icmp .ne 11, 3) := by decide +kernel
theorem d_RM_isMark_276 : decode prog_13_method_37_code 276 = .ok (.iload_n 3, 1) := by decide +kernel
theorem d_RM_isMark_277 : decode prog_13_method_37_code 277 = .ok (.ifCond .eq 7, 3) := by decide +kernel
theorem d_RM_isMark_280 : decode prog_13_method_37_code 280 = .ok (.iconst 1, 1) := by decide +kernel
theorem d_RM_isMark_281 : decode prog_13_method_37_code 281 = .ok (.goto 4, 3) := by decide +kernel
theorem d_RM_isMark_284 : decode prog_13_method_37_code 284 = .ok (.iconst 0, 1) := by decide +kernel
theorem d_RM_isMark_285 : decode prog_13_method_37_code 285 = .ok (.istore 6, 2) := by decide +kernel
theorem d_RM_isMark_287 : decode prog_13_method_37_code 287 = .ok (.iload_n 1, 1) := by decide +kernel
theorem d_RM_isMark_288 : decode prog_13_method_37_code 288 = .ok (.sipush 247, 3) := by decide +kernel
theorem d_RM_isMark_291 : decode prog_13_method_37_code 291 = .ok (.if_icmp .ne 10, 3) := by decide +kernel
theorem d_RM_isMark_294 : decode prog_13_method_37_code 294 = .ok (.aload_n 0, 1) := by decide +kernel
theorem d_RM_isMark_295 : decode prog_13_method_37_code 295 = .ok (.getfield 223, 3) := by decide +kernel
theorem d_RM_isMark_298 : decode prog_13_method_37_code 298 = .ok (.ifCond .ne 25, 3) := by decide +kernel
theorem d_RM_isMark_301 : decode prog_13_method_37_code 301 = .ok (.iload 5, 2) := by decide +kernel
theorem d_RM_isMark_303 : decode prog_13_method_37_code 303 = .ok (.ifCond .ne 20, 3) := by decide +kernel
theorem d_RM_isMark_306 : decode prog_13_method_37_code 306 = .ok (.iload 6, 2) := by decide +kernel
theorem d_RM_isMark_308 : decode prog_13_method_37_code 308 = .ok (.ifCond .ne 15, 3) := by decide +kernel
theorem d_RM_isMark_311 : decode prog_13_method_37_code 311 = .ok (.iload_n 1, 1) := by decide +kernel
theorem d_RM_isMark_312 : decode prog_13_method_37_code 312 = .ok (.sipush 217, 3) := by decide +kernel
theorem d_RM_isMark_315 : decode prog_13_method_37_code 315 = .ok (.if_icmp .ne 18, 3) := by decide +kernel
theorem d_RM_isMark_318 : decode prog_13_method_37_code 318 = .ok (.iload 4, 2) := by decide +kernel
theorem d_RM_isMark_320 : decode prog_13_method_37_code 320 = .ok (.ifCond .ne 13, 3) := by decide +kernel
theorem d_RM_isMark_323 : decode prog_13_method_37_code 323 = .ok (.aload_n 0, 1) := by decide +kernel
theorem d_RM_isMark_324 : decode prog_13_method_37_code 324 = .ok (.iconst 5, 1) := by decide +kernel
theorem d_RM_isMark_325 : decode prog_13_method_37_code 325 = .ok (.aload_n 0, 1) := by decide +kernel
theorem d_RM_isMark_326 : decode prog_13_method_37_code 326 = .ok (.getfield 216, 3) := by decide +kernel
theorem d_RM_isMark_329 : decode prog_13_method_37_code 329 = .ok (.invokevirtual 219, 3) := by decide +kernel
theorem d_RM_isMark_332 : decode prog_13_method_37_code 332 = .ok (.ireturn, 1) := by decide +kernel
theorem d_RM_isMark_333 : decode prog_13_method_37_code 333 = .ok (.iconst 1, 1) := by decide +kernel
theorem d_RM_isMark_334 : decode prog_13_method_37_code 334 = .ok (.ireturn, 1) := by decide +kernel
def L_RM_isMark_170 (r0 : Nat) (b1 : Int32) (b2 : Int32) (σ : Mem) : Nat → Int32 → Int32 → Int32 →  Option (Int32 × Int32 × Int32)
  | 0, _, _, _ => none
  | n + 1, a3, a4, a5 =>
  if (σ r0 37) ≤ a5 then
  some (a3, a4, a5)
  else
  lt (fun (y98 : Int32) => 
  lt (fun (y110 : Int32) => 
  L_RM_isMark_170 r0 b1 b2 σ n y98 y110 (a5 + (1 : Int32))) fun K111 =>
  lt (
  K111 (0 : Int32)) fun K116 =>
  if a4 = 0 then
  K116
  else
  if inb a5 (wln (wtg r0 50)) = true then
  if (σ (wtg r0 50) a5.toNatClampNeg) = 0 then
  K116
  else
  K111 (1 : Int32)
  else none) fun K99 =>
  lt (
  K99 (1 : Int32)) fun K126 =>
  if a3 = 0 then
  if inb a5 (wln (wtg r0 50)) = true then
  if (σ (wtg r0 50) a5.toNatClampNeg) = 0 then
  K99 (0 : Int32)
  else
  K126
  else none
  else
  K126
def f_RM_isMark (k0 : Nat) (σ : Mem) : Option (Int32 × Mem) :=
  if (2 : Int32) ≤ ((σ k0 19) - (σ k0 32)) then
  if inb ((σ k0 32) + (1 : Int32)) (wln (wtg k0 18)) = true then
  lt (σ (wtg k0 18) ((σ k0 32) + (1 : Int32)).toNatClampNeg) fun v3 =>
  lt (if (f_RM_isIn v3 (224 : Int32) (239 : Int32) σ) = 0 then (if v3 = (254 : Int32) then (1 : Int32) else (if v3 = (247 : Int32) then (1 : Int32) else (if v3 = (248 : Int32) then (1 : Int32) else (if v3 = (221 : Int32) then (1 : Int32) else (if v3 = (218 : Int32) then (1 : Int32) else (if v3 = (217 : Int32) then (1 : Int32) else (if v3 = (216 : Int32) then (1 : Int32) else (0 : Int32)))))))) else (1 : Int32)) fun v38 =>
  if inb (σ k0 32) (wln (wtg k0 18)) = true then
  lt (fun  (σ53 : Mem) => 
  lt (f_RM_broken k0 (2 : Int32) (σ53 k0 32) σ53) fun q56 =>
  some (q56.1, q56.2)) fun K54 =>
  if (σ (wtg k0 18) (σ k0 32).toNatClampNeg) = (255 : Int32) then
  if v38 = 0 then
  K54 σ
  else
  if (if (σ k0 32) = 0 then (1 : Int32) else (0 : Int32)) = (if v3 = (216 : Int32) then (1 : Int32) else (0 : Int32)) then
  (L_RM_isMark_170 k0 v3 v38 σ 9999 (0 : Int32) (σ k0 33) (0 : Int32)).bind fun q131 =>
  lt (if v3 = (248 : Int32) then (if (σ k0 33) = 0 then (1 : Int32) else (0 : Int32)) else (if v3 = (221 : Int32) then (if (σ k0 33) = 0 then (1 : Int32) else (0 : Int32)) else (if v3 = (218 : Int32) then (if (σ k0 33) = 0 then (1 : Int32) else (0 : Int32)) else (0 : Int32)))) fun v166 =>
  lt (if v3 = (248 : Int32) then (if q131.1 = 0 then (0 : Int32) else (1 : Int32)) else (if v3 = (221 : Int32) then (if q131.1 = 0 then (0 : Int32) else (1 : Int32)) else (0 : Int32))) fun v193 =>
  lt (
  lt (f_RM_broken k0 (5 : Int32) (σ k0 32) σ) fun q263 =>
  some (q263.1, q263.2)) fun K261 =>
  lt (
  if v166 = 0 then
  if v193 = 0 then
  if v3 = (217 : Int32) then
  if q131.2.1 = 0 then
  K261
  else
  some ((1 : Int32), σ)
  else
  some ((1 : Int32), σ)
  else
  K261
  else
  K261) fun K307 =>
  if v3 = (247 : Int32) then
  if (σ k0 33) = 0 then
  K307
  else
  K261
  else
  K307
  else
  K54 σ
  else
  K54 σ
  else none
  else none
  else
  lt (f_RM_broken k0 (1 : Int32) (σ k0 19) σ) fun q321 =>
  some (q321.1, q321.2)
set_option maxHeartbeats 4000000 in
set_option maxRecDepth 100000 in
theorem wL_RM_isMark_170 {F : Fx} (C : Ctx F prog_13_method_37_code 7 "LineFramesModel" (some .boolean) 1 22) {cv : Option (Int32 × Int32 × Int32) → Option Rs} (h0 : cv none = none) (r0 : Nat) (hr0 : Is r0 11) (b1 : Int32) (b2 : Int32) (σ : Mem) (hex : ∀ q : Int32 × Int32 × Int32, J F 7 cv (some q) σ 227 [(0, .ref (fad F r0)), (1, .int b1), (2, .int b2), (3, .int q.1), (4, .int q.2.1), (5, .int q.2.2)] []) : ∀ (n : Nat) (a3 : Int32) (a4 : Int32) (a5 : Int32), J F 7 cv (L_RM_isMark_170 r0 b1 b2 σ n a3 a4 a5) σ 170 [(0, .ref (fad F r0)), (1, .int b1), (2, .int b2), (3, .int a3), (4, .int a4), (5, .int a5)] [] := by
  intro n
  induction n with
  | zero => intro a3 a4 a5 hE; rw [L_RM_isMark_170, h0] at hE; cases hE
  | succ n ih =>
    intro a3 a4 a5
    rw [L_RM_isMark_170]
    refine j_iload C d_RM_isMark_170 5 rfl ?_
    refine j_aload_n C d_RM_isMark_172 0 rfl ?_
    refine j_getI C hr0 fl_RM_227 rfl d_RM_isMark_173 ?_
    refine j_icmp_ge (tgt := 227) C d_RM_isMark_176 (by decide) (fun c64 => ?_) (fun c64 => ?_)
    · exact hex (a3, a4, a5)
    · refine j_iload_n C d_RM_isMark_179 3 rfl ?_
      refine j_join1 198 (fun _ => [(0, .ref (fad F r0)), (1, .int b1), (2, .int b2), (3, .int a3), (4, .int a4), (5, .int a5)]) (fun y98 => [.int y98]) (fun y98 => ?_) (fun K99 H100 => ?_)
      · refine j_istore_n (lv9 := [(0, .ref (fad F r0)), (1, .int b1), (2, .int b2), (3, .int y98), (4, .int a4), (5, .int a5)]) C d_RM_isMark_198 rfl rfl (by decide) ?_
        refine j_iload C d_RM_isMark_199 4 rfl ?_
        refine j_join1 219 (fun _ => [(0, .ref (fad F r0)), (1, .int b1), (2, .int b2), (3, .int y98), (4, .int a4), (5, .int a5)]) (fun y110 => [.int y110]) (fun y110 => ?_) (fun K111 H112 => ?_)
        · refine j_istore (lv9 := [(0, .ref (fad F r0)), (1, .int b1), (2, .int b2), (3, .int y98), (4, .int y110), (5, .int a5)]) C d_RM_isMark_219 rfl rfl (by decide) ?_
          refine j_iinc (v := (a5 + (1 : Int32))) (lv9 := [(0, .ref (fad F r0)), (1, .int b1), (2, .int b2), (3, .int y98), (4, .int y110), (5, .int (a5 + (1 : Int32)))]) C d_RM_isMark_221 5 rfl rfl rfl rfl (by decide) ?_
          refine j_goto (tgt := 170) C d_RM_isMark_224 (by decide) ?_
          exact ih y98 y110 (a5 + (1 : Int32))
        · refine j_join0 218 ([(0, .ref (fad F r0)), (1, .int b1), (2, .int b2), (3, .int y98), (4, .int a4), (5, .int a5)]) ([]) (?_) (fun K116 H117 => ?_)
          · refine j_iconst (v := (0 : Int32)) C d_RM_isMark_218 (by decide) ?_
            exact H112 (0 : Int32)
          · refine j_if_eq (tgt := 218) C d_RM_isMark_201 (by decide) (fun c118 => ?_) (fun c118 => ?_)
            · exact H117
            · refine j_aload_n C d_RM_isMark_204 0 rfl ?_
              refine j_getR C hr0 fl_RM_74 rfl d_RM_isMark_205 ?_
              refine j_iload C d_RM_isMark_208 5 rfl ?_
              refine j_need (by exact h0) (fun g119 => ?_)
              refine j_zald C (tg_11_50 _ hr0) (inb_in g119) d_RM_isMark_210 ?_
              refine j_if_eq (tgt := 218) C d_RM_isMark_211 (by decide) (fun c120 => ?_) (fun c120 => ?_)
              · exact H117
              · refine j_iconst (v := (1 : Int32)) C d_RM_isMark_214 (by decide) ?_
                refine j_goto (tgt := 219) C d_RM_isMark_215 (by decide) ?_
                exact H112 (1 : Int32)
      · refine j_join0 193 ([(0, .ref (fad F r0)), (1, .int b1), (2, .int b2), (3, .int a3), (4, .int a4), (5, .int a5)]) ([]) (?_) (fun K126 H127 => ?_)
        · refine j_iconst (v := (1 : Int32)) C d_RM_isMark_193 (by decide) ?_
          refine j_goto (tgt := 198) C d_RM_isMark_194 (by decide) ?_
          exact H100 (1 : Int32)
        · refine j_if_ne (tgt := 193) C d_RM_isMark_180 (by decide) (fun c128 => ?_) (fun c128 => ?_)
          · exact H127
          · refine j_aload_n C d_RM_isMark_183 0 rfl ?_
            refine j_getR C hr0 fl_RM_74 rfl d_RM_isMark_184 ?_
            refine j_iload C d_RM_isMark_187 5 rfl ?_
            refine j_need (by exact h0) (fun g129 => ?_)
            refine j_zald C (tg_11_50 _ hr0) (inb_in g129) d_RM_isMark_189 ?_
            refine j_if_eq (tgt := 197) C d_RM_isMark_190 (by decide) (fun c130 => ?_) (fun c130 => ?_)
            · refine j_iconst (v := (0 : Int32)) C d_RM_isMark_197 (by decide) ?_
              exact H100 (0 : Int32)
            · exact H127
set_option maxHeartbeats 4000000 in
set_option maxRecDepth 100000 in
theorem w_RM_isMark {F : Fx} (C : Ctx F prog_13_method_37_code 7 "LineFramesModel" (some .boolean) 1 22) {k0 : Nat} (h0k : Is k0 11) (σ : Mem) : J F 7 (cvO cvIM) (f_RM_isMark k0 σ) σ 0 [(0, .ref (fad F k0))] [] := by
  unfold f_RM_isMark
  refine j_aload_n C d_RM_isMark_0 0 rfl ?_
  refine j_getI C h0k fl_RM_207 rfl d_RM_isMark_1 ?_
  refine j_aload_n C d_RM_isMark_4 0 rfl ?_
  refine j_getI C h0k fl_RM_216 rfl d_RM_isMark_5 ?_
  refine j_isub C d_RM_isMark_8 ?_
  refine j_iconst (v := (2 : Int32)) C d_RM_isMark_9 (by decide) ?_
  refine j_icmp_ge (tgt := 23) C d_RM_isMark_10 (by decide) (fun c1 => ?_) (fun c1 => ?_)
  · refine j_aload_n C d_RM_isMark_23 0 rfl ?_
    refine j_getR C h0k fl_RM_32 rfl d_RM_isMark_24 ?_
    refine j_aload_n C d_RM_isMark_27 0 rfl ?_
    refine j_getI C h0k fl_RM_216 rfl d_RM_isMark_28 ?_
    refine j_iconst (v := (1 : Int32)) C d_RM_isMark_31 (by decide) ?_
    refine j_iadd C d_RM_isMark_32 ?_
    refine j_need rfl (fun g2 => ?_)
    refine j_iald C (tg_11_18 _ h0k) (inb_in g2) d_RM_isMark_33 ?_
    refine j_nm (fun v3 v3_e => ?_)
    refine j_istore_n (lv9 := [(0, .ref (fad F k0)), (1, .int v3)]) C d_RM_isMark_34 rfl rfl (by decide) ?_
    refine j_iload_n C d_RM_isMark_35 1 rfl ?_
    refine j_sipush (v := (224 : Int32)) C d_RM_isMark_36 (by decide) ?_
    refine j_sipush (v := (239 : Int32)) C d_RM_isMark_39 (by decide) ?_
    refine j_callSi C ms_RM_93 [.int v3, .int (224 : Int32), .int (239 : Int32)] [] (c_RM_isIn v3 (224 : Int32) (239 : Int32) σ) rfl rfl (by decide) (Nat.le_of_ble_eq_true rfl) d_RM_isMark_42 ?_
    refine d_if_ne (a := (if v3 = (254 : Int32) then (1 : Int32) else (if v3 = (247 : Int32) then (1 : Int32) else (if v3 = (248 : Int32) then (1 : Int32) else (if v3 = (221 : Int32) then (1 : Int32) else (if v3 = (218 : Int32) then (1 : Int32) else (if v3 = (217 : Int32) then (1 : Int32) else (if v3 = (216 : Int32) then (1 : Int32) else (0 : Int32))))))))) (b := (1 : Int32)) (jp := 102) (tgt := 97) C d_RM_isMark_45 (by decide) (fun c22 k23 => ?_) (fun c22 k23 => ?_) ?_
    · refine j_iconst (v := (1 : Int32)) C d_RM_isMark_97 (by decide) ?_
      refine j_goto (tgt := 102) C d_RM_isMark_98 (by decide) ?_
      exact k23
    · refine j_iload_n C d_RM_isMark_48 1 rfl ?_
      refine j_sipush (v := (254 : Int32)) C d_RM_isMark_49 (by decide) ?_
      refine d_icmp_eq (a := (1 : Int32)) (b := (if v3 = (247 : Int32) then (1 : Int32) else (if v3 = (248 : Int32) then (1 : Int32) else (if v3 = (221 : Int32) then (1 : Int32) else (if v3 = (218 : Int32) then (1 : Int32) else (if v3 = (217 : Int32) then (1 : Int32) else (if v3 = (216 : Int32) then (1 : Int32) else (0 : Int32)))))))) (jp := 102) (tgt := 97) C d_RM_isMark_52 (by decide) (fun c24 k25 => ?_) (fun c24 k25 => ?_) ?_
      · refine j_iconst (v := (1 : Int32)) C d_RM_isMark_97 (by decide) ?_
        refine j_goto (tgt := 102) C d_RM_isMark_98 (by decide) ?_
        exact k25
      · refine j_iload_n C d_RM_isMark_55 1 rfl ?_
        refine j_sipush (v := (247 : Int32)) C d_RM_isMark_56 (by decide) ?_
        refine d_icmp_eq (a := (1 : Int32)) (b := (if v3 = (248 : Int32) then (1 : Int32) else (if v3 = (221 : Int32) then (1 : Int32) else (if v3 = (218 : Int32) then (1 : Int32) else (if v3 = (217 : Int32) then (1 : Int32) else (if v3 = (216 : Int32) then (1 : Int32) else (0 : Int32))))))) (jp := 102) (tgt := 97) C d_RM_isMark_59 (by decide) (fun c26 k27 => ?_) (fun c26 k27 => ?_) ?_
        · refine j_iconst (v := (1 : Int32)) C d_RM_isMark_97 (by decide) ?_
          refine j_goto (tgt := 102) C d_RM_isMark_98 (by decide) ?_
          exact k27
        · refine j_iload_n C d_RM_isMark_62 1 rfl ?_
          refine j_sipush (v := (248 : Int32)) C d_RM_isMark_63 (by decide) ?_
          refine d_icmp_eq (a := (1 : Int32)) (b := (if v3 = (221 : Int32) then (1 : Int32) else (if v3 = (218 : Int32) then (1 : Int32) else (if v3 = (217 : Int32) then (1 : Int32) else (if v3 = (216 : Int32) then (1 : Int32) else (0 : Int32)))))) (jp := 102) (tgt := 97) C d_RM_isMark_66 (by decide) (fun c28 k29 => ?_) (fun c28 k29 => ?_) ?_
          · refine j_iconst (v := (1 : Int32)) C d_RM_isMark_97 (by decide) ?_
            refine j_goto (tgt := 102) C d_RM_isMark_98 (by decide) ?_
            exact k29
          · refine j_iload_n C d_RM_isMark_69 1 rfl ?_
            refine j_sipush (v := (221 : Int32)) C d_RM_isMark_70 (by decide) ?_
            refine d_icmp_eq (a := (1 : Int32)) (b := (if v3 = (218 : Int32) then (1 : Int32) else (if v3 = (217 : Int32) then (1 : Int32) else (if v3 = (216 : Int32) then (1 : Int32) else (0 : Int32))))) (jp := 102) (tgt := 97) C d_RM_isMark_73 (by decide) (fun c30 k31 => ?_) (fun c30 k31 => ?_) ?_
            · refine j_iconst (v := (1 : Int32)) C d_RM_isMark_97 (by decide) ?_
              refine j_goto (tgt := 102) C d_RM_isMark_98 (by decide) ?_
              exact k31
            · refine j_iload_n C d_RM_isMark_76 1 rfl ?_
              refine j_sipush (v := (218 : Int32)) C d_RM_isMark_77 (by decide) ?_
              refine d_icmp_eq (a := (1 : Int32)) (b := (if v3 = (217 : Int32) then (1 : Int32) else (if v3 = (216 : Int32) then (1 : Int32) else (0 : Int32)))) (jp := 102) (tgt := 97) C d_RM_isMark_80 (by decide) (fun c32 k33 => ?_) (fun c32 k33 => ?_) ?_
              · refine j_iconst (v := (1 : Int32)) C d_RM_isMark_97 (by decide) ?_
                refine j_goto (tgt := 102) C d_RM_isMark_98 (by decide) ?_
                exact k33
              · refine j_iload_n C d_RM_isMark_83 1 rfl ?_
                refine j_sipush (v := (217 : Int32)) C d_RM_isMark_84 (by decide) ?_
                refine d_icmp_eq (a := (1 : Int32)) (b := (if v3 = (216 : Int32) then (1 : Int32) else (0 : Int32))) (jp := 102) (tgt := 97) C d_RM_isMark_87 (by decide) (fun c34 k35 => ?_) (fun c34 k35 => ?_) ?_
                · refine j_iconst (v := (1 : Int32)) C d_RM_isMark_97 (by decide) ?_
                  refine j_goto (tgt := 102) C d_RM_isMark_98 (by decide) ?_
                  exact k35
                · refine j_iload_n C d_RM_isMark_90 1 rfl ?_
                  refine j_sipush (v := (216 : Int32)) C d_RM_isMark_91 (by decide) ?_
                  refine d_icmp_ne (a := (1 : Int32)) (b := (0 : Int32)) (jp := 102) (tgt := 101) C d_RM_isMark_94 (by decide) (fun c36 k37 => ?_) (fun c36 k37 => ?_) ?_
                  · refine j_iconst (v := (0 : Int32)) C d_RM_isMark_101 (by decide) ?_
                    exact k37
                  · refine j_iconst (v := (1 : Int32)) C d_RM_isMark_97 (by decide) ?_
                    refine j_goto (tgt := 102) C d_RM_isMark_98 (by decide) ?_
                    exact k37
                  exact k35
                exact k33
              exact k31
            exact k29
          exact k27
        exact k25
      exact k23
    refine j_nm (fun v38 v38_e => ?_)
    refine j_istore_n (lv9 := [(0, .ref (fad F k0)), (1, .int v3), (2, .int v38)]) C d_RM_isMark_102 rfl rfl (by decide) ?_
    refine j_aload_n C d_RM_isMark_103 0 rfl ?_
    refine j_getR C h0k fl_RM_32 rfl d_RM_isMark_104 ?_
    refine j_aload_n C d_RM_isMark_107 0 rfl ?_
    refine j_getI C h0k fl_RM_216 rfl d_RM_isMark_108 ?_
    refine j_need rfl (fun g39 => ?_)
    refine j_iald C (tg_11_18 _ h0k) (inb_in g39) d_RM_isMark_111 ?_
    refine j_sipush (v := (255 : Int32)) C d_RM_isMark_112 (by decide) ?_
    refine j_join0m 149 (fun _ => [(0, .ref (fad F k0)), (1, .int v3), (2, .int v38)]) (fun _ => []) (fun σ53 => ?_) (fun K54 H55 => ?_)
    · refine j_aload_n C d_RM_isMark_149 0 rfl ?_
      refine j_iconst (v := (2 : Int32)) C d_RM_isMark_150 (by decide) ?_
      refine j_aload_n C d_RM_isMark_151 0 rfl ?_
      refine j_getI C h0k fl_RM_216 rfl d_RM_isMark_152 ?_
      refine j_callVi C mv_RM_219 [.int (2 : Int32), .int (σ53 k0 32)] [] h0k (c_RM_broken h0k (2 : Int32) (σ53 k0 32) σ53) rfl rfl (by decide) (Nat.le_of_ble_eq_true rfl) d_RM_isMark_155 ?_
      refine j_genIMz (z_RM_broken _ _ _ _) (fun q56 q56_z => ?_)
      exact j_iretz C (fun ρ h => leaf_eq h) (nz01 q56_z) d_RM_isMark_158
    · refine j_icmp_ne (tgt := 149) C d_RM_isMark_115 (by decide) (fun c57 => ?_) (fun c57 => ?_)
      · exact H55 σ
      · refine j_iload_n C d_RM_isMark_118 2 rfl ?_
        refine j_if_eq (tgt := 149) C d_RM_isMark_119 (by decide) (fun c58 => ?_) (fun c58 => ?_)
        · exact H55 σ
        · refine j_aload_n C d_RM_isMark_122 0 rfl ?_
          refine j_getI C h0k fl_RM_216 rfl d_RM_isMark_123 ?_
          refine d_if_ne (a := (1 : Int32)) (b := (0 : Int32)) (jp := 134) (tgt := 133) C d_RM_isMark_126 (by decide) (fun c59 k60 => ?_) (fun c59 k60 => ?_) ?_
          · refine j_iconst (v := (0 : Int32)) C d_RM_isMark_133 (by decide) ?_
            exact k60
          · refine j_iconst (v := (1 : Int32)) C d_RM_isMark_129 (by decide) ?_
            refine j_goto (tgt := 134) C d_RM_isMark_130 (by decide) ?_
            exact k60
          refine j_iload_n C d_RM_isMark_134 1 rfl ?_
          refine j_sipush (v := (216 : Int32)) C d_RM_isMark_135 (by decide) ?_
          refine d_icmp_ne (a := (1 : Int32)) (b := (0 : Int32)) (jp := 146) (tgt := 145) C d_RM_isMark_138 (by decide) (fun c61 k62 => ?_) (fun c61 k62 => ?_) ?_
          · refine j_iconst (v := (0 : Int32)) C d_RM_isMark_145 (by decide) ?_
            exact k62
          · refine j_iconst (v := (1 : Int32)) C d_RM_isMark_141 (by decide) ?_
            refine j_goto (tgt := 146) C d_RM_isMark_142 (by decide) ?_
            exact k62
          refine j_icmp_eq (tgt := 159) C d_RM_isMark_146 (by decide) (fun c63 => ?_) (fun c63 => ?_)
          · refine j_iconst (v := (0 : Int32)) C d_RM_isMark_159 (by decide) ?_
            refine j_istore_n (lv9 := [(0, .ref (fad F k0)), (1, .int v3), (2, .int v38), (3, .int (0 : Int32))]) C d_RM_isMark_160 rfl rfl (by decide) ?_
            refine j_aload_n C d_RM_isMark_161 0 rfl ?_
            refine j_getI C h0k fl_RM_223 rfl d_RM_isMark_162 ?_
            refine j_istore (lv9 := [(0, .ref (fad F k0)), (1, .int v3), (2, .int v38), (3, .int (0 : Int32)), (4, .int (σ k0 33))]) C d_RM_isMark_165 rfl rfl (by decide) ?_
            refine j_iconst (v := (0 : Int32)) C d_RM_isMark_167 (by decide) ?_
            refine j_istore (lv9 := [(0, .ref (fad F k0)), (1, .int v3), (2, .int v38), (3, .int (0 : Int32)), (4, .int (σ k0 33)), (5, .int (0 : Int32))]) C d_RM_isMark_168 rfl rfl (by decide) ?_
            refine j_loop (wL_RM_isMark_170 C rfl k0 h0k v3 v38 σ (fun q131 => j_some ?_) 9999 (0 : Int32) (σ k0 33) (0 : Int32))
            refine j_iload_n C d_RM_isMark_227 1 rfl ?_
            refine j_sipush (v := (248 : Int32)) C d_RM_isMark_228 (by decide) ?_
            refine d_icmp_eq (a := (if (σ k0 33) = 0 then (1 : Int32) else (0 : Int32))) (b := (if v3 = (221 : Int32) then (if (σ k0 33) = 0 then (1 : Int32) else (0 : Int32)) else (if v3 = (218 : Int32) then (if (σ k0 33) = 0 then (1 : Int32) else (0 : Int32)) else (0 : Int32)))) (jp := 260) (tgt := 248) C d_RM_isMark_231 (by decide) (fun c154 k155 => ?_) (fun c154 k155 => ?_) ?_
            · refine j_aload_n C d_RM_isMark_248 0 rfl ?_
              refine j_getI C h0k fl_RM_223 rfl d_RM_isMark_249 ?_
              refine d_if_ne (a := (1 : Int32)) (b := (0 : Int32)) (jp := 260) (tgt := 259) C d_RM_isMark_252 (by decide) (fun c156 k157 => ?_) (fun c156 k157 => ?_) ?_
              · refine j_iconst (v := (0 : Int32)) C d_RM_isMark_259 (by decide) ?_
                exact k157
              · refine j_iconst (v := (1 : Int32)) C d_RM_isMark_255 (by decide) ?_
                refine j_goto (tgt := 260) C d_RM_isMark_256 (by decide) ?_
                exact k157
              exact k155
            · refine j_iload_n C d_RM_isMark_234 1 rfl ?_
              refine j_sipush (v := (221 : Int32)) C d_RM_isMark_235 (by decide) ?_
              refine d_icmp_eq (a := (if (σ k0 33) = 0 then (1 : Int32) else (0 : Int32))) (b := (if v3 = (218 : Int32) then (if (σ k0 33) = 0 then (1 : Int32) else (0 : Int32)) else (0 : Int32))) (jp := 260) (tgt := 248) C d_RM_isMark_238 (by decide) (fun c158 k159 => ?_) (fun c158 k159 => ?_) ?_
              · refine j_aload_n C d_RM_isMark_248 0 rfl ?_
                refine j_getI C h0k fl_RM_223 rfl d_RM_isMark_249 ?_
                refine d_if_ne (a := (1 : Int32)) (b := (0 : Int32)) (jp := 260) (tgt := 259) C d_RM_isMark_252 (by decide) (fun c160 k161 => ?_) (fun c160 k161 => ?_) ?_
                · refine j_iconst (v := (0 : Int32)) C d_RM_isMark_259 (by decide) ?_
                  exact k161
                · refine j_iconst (v := (1 : Int32)) C d_RM_isMark_255 (by decide) ?_
                  refine j_goto (tgt := 260) C d_RM_isMark_256 (by decide) ?_
                  exact k161
                exact k159
              · refine j_iload_n C d_RM_isMark_241 1 rfl ?_
                refine j_sipush (v := (218 : Int32)) C d_RM_isMark_242 (by decide) ?_
                refine d_icmp_ne (a := (if (σ k0 33) = 0 then (1 : Int32) else (0 : Int32))) (b := (0 : Int32)) (jp := 260) (tgt := 259) C d_RM_isMark_245 (by decide) (fun c162 k163 => ?_) (fun c162 k163 => ?_) ?_
                · refine j_iconst (v := (0 : Int32)) C d_RM_isMark_259 (by decide) ?_
                  exact k163
                · refine j_aload_n C d_RM_isMark_248 0 rfl ?_
                  refine j_getI C h0k fl_RM_223 rfl d_RM_isMark_249 ?_
                  refine d_if_ne (a := (1 : Int32)) (b := (0 : Int32)) (jp := 260) (tgt := 259) C d_RM_isMark_252 (by decide) (fun c164 k165 => ?_) (fun c164 k165 => ?_) ?_
                  · refine j_iconst (v := (0 : Int32)) C d_RM_isMark_259 (by decide) ?_
                    exact k165
                  · refine j_iconst (v := (1 : Int32)) C d_RM_isMark_255 (by decide) ?_
                    refine j_goto (tgt := 260) C d_RM_isMark_256 (by decide) ?_
                    exact k165
                  exact k163
                exact k159
              exact k155
            refine j_nm (fun v166 v166_e => ?_)
            refine j_istore (lv9 := [(0, .ref (fad F k0)), (1, .int v3), (2, .int v38), (3, .int q131.1), (4, .int q131.2.1), (5, .int v166)]) C d_RM_isMark_260 rfl rfl (by decide) ?_
            refine j_iload_n C d_RM_isMark_262 1 rfl ?_
            refine j_sipush (v := (248 : Int32)) C d_RM_isMark_263 (by decide) ?_
            refine d_icmp_eq (a := (if q131.1 = 0 then (0 : Int32) else (1 : Int32))) (b := (if v3 = (221 : Int32) then (if q131.1 = 0 then (0 : Int32) else (1 : Int32)) else (0 : Int32))) (jp := 285) (tgt := 276) C d_RM_isMark_266 (by decide) (fun c185 k186 => ?_) (fun c185 k186 => ?_) ?_
            · refine j_iload_n C d_RM_isMark_276 3 rfl ?_
              refine d_if_eq (a := (0 : Int32)) (b := (1 : Int32)) (jp := 285) (tgt := 284) C d_RM_isMark_277 (by decide) (fun c187 k188 => ?_) (fun c187 k188 => ?_) ?_
              · refine j_iconst (v := (0 : Int32)) C d_RM_isMark_284 (by decide) ?_
                exact k188
              · refine j_iconst (v := (1 : Int32)) C d_RM_isMark_280 (by decide) ?_
                refine j_goto (tgt := 285) C d_RM_isMark_281 (by decide) ?_
                exact k188
              exact k186
            · refine j_iload_n C d_RM_isMark_269 1 rfl ?_
              refine j_sipush (v := (221 : Int32)) C d_RM_isMark_270 (by decide) ?_
              refine d_icmp_ne (a := (if q131.1 = 0 then (0 : Int32) else (1 : Int32))) (b := (0 : Int32)) (jp := 285) (tgt := 284) C d_RM_isMark_273 (by decide) (fun c189 k190 => ?_) (fun c189 k190 => ?_) ?_
              · refine j_iconst (v := (0 : Int32)) C d_RM_isMark_284 (by decide) ?_
                exact k190
              · refine j_iload_n C d_RM_isMark_276 3 rfl ?_
                refine d_if_eq (a := (0 : Int32)) (b := (1 : Int32)) (jp := 285) (tgt := 284) C d_RM_isMark_277 (by decide) (fun c191 k192 => ?_) (fun c191 k192 => ?_) ?_
                · refine j_iconst (v := (0 : Int32)) C d_RM_isMark_284 (by decide) ?_
                  exact k192
                · refine j_iconst (v := (1 : Int32)) C d_RM_isMark_280 (by decide) ?_
                  refine j_goto (tgt := 285) C d_RM_isMark_281 (by decide) ?_
                  exact k192
                exact k190
              exact k186
            refine j_nm (fun v193 v193_e => ?_)
            refine j_istore (lv9 := [(0, .ref (fad F k0)), (1, .int v3), (2, .int v38), (3, .int q131.1), (4, .int q131.2.1), (5, .int v166), (6, .int v193)]) C d_RM_isMark_285 rfl rfl (by decide) ?_
            refine j_iload_n C d_RM_isMark_287 1 rfl ?_
            refine j_sipush (v := (247 : Int32)) C d_RM_isMark_288 (by decide) ?_
            refine j_join0 323 ([(0, .ref (fad F k0)), (1, .int v3), (2, .int v38), (3, .int q131.1), (4, .int q131.2.1), (5, .int v166), (6, .int v193)]) ([]) (?_) (fun K261 H262 => ?_)
            · refine j_aload_n C d_RM_isMark_323 0 rfl ?_
              refine j_iconst (v := (5 : Int32)) C d_RM_isMark_324 (by decide) ?_
              refine j_aload_n C d_RM_isMark_325 0 rfl ?_
              refine j_getI C h0k fl_RM_216 rfl d_RM_isMark_326 ?_
              refine j_callVi C mv_RM_219 [.int (5 : Int32), .int (σ k0 32)] [] h0k (c_RM_broken h0k (5 : Int32) (σ k0 32) σ) rfl rfl (by decide) (Nat.le_of_ble_eq_true rfl) d_RM_isMark_329 ?_
              refine j_genIMz (z_RM_broken _ _ _ _) (fun q263 q263_z => ?_)
              exact j_iretz C (fun ρ h => leaf_eq h) (nz01 q263_z) d_RM_isMark_332
            · refine j_join0 301 ([(0, .ref (fad F k0)), (1, .int v3), (2, .int v38), (3, .int q131.1), (4, .int q131.2.1), (5, .int v166), (6, .int v193)]) ([]) (?_) (fun K307 H308 => ?_)
              · refine j_iload C d_RM_isMark_301 5 rfl ?_
                refine j_if_ne (tgt := 323) C d_RM_isMark_303 (by decide) (fun c309 => ?_) (fun c309 => ?_)
                · exact H262
                · refine j_iload C d_RM_isMark_306 6 rfl ?_
                  refine j_if_ne (tgt := 323) C d_RM_isMark_308 (by decide) (fun c310 => ?_) (fun c310 => ?_)
                  · exact H262
                  · refine j_iload_n C d_RM_isMark_311 1 rfl ?_
                    refine j_sipush (v := (217 : Int32)) C d_RM_isMark_312 (by decide) ?_
                    refine j_icmp_ne (tgt := 333) C d_RM_isMark_315 (by decide) (fun c317 => ?_) (fun c317 => ?_)
                    · refine j_iconst (v := (1 : Int32)) C d_RM_isMark_333 (by decide) ?_
                      exact j_iretz C (fun ρ h => leaf_eq h) (nz01 (Or.inr rfl)) d_RM_isMark_334
                    · refine j_iload C d_RM_isMark_318 4 rfl ?_
                      refine j_if_ne (tgt := 333) C d_RM_isMark_320 (by decide) (fun c318 => ?_) (fun c318 => ?_)
                      · refine j_iconst (v := (1 : Int32)) C d_RM_isMark_333 (by decide) ?_
                        exact j_iretz C (fun ρ h => leaf_eq h) (nz01 (Or.inr rfl)) d_RM_isMark_334
                      · exact H262
              · refine j_icmp_ne (tgt := 301) C d_RM_isMark_291 (by decide) (fun c319 => ?_) (fun c319 => ?_)
                · exact H308
                · refine j_aload_n C d_RM_isMark_294 0 rfl ?_
                  refine j_getI C h0k fl_RM_223 rfl d_RM_isMark_295 ?_
                  refine j_if_ne (tgt := 323) C d_RM_isMark_298 (by decide) (fun c320 => ?_) (fun c320 => ?_)
                  · exact H262
                  · exact H308
          · exact H55 σ
  · refine j_aload_n C d_RM_isMark_13 0 rfl ?_
    refine j_iconst (v := (1 : Int32)) C d_RM_isMark_14 (by decide) ?_
    refine j_aload_n C d_RM_isMark_15 0 rfl ?_
    refine j_getI C h0k fl_RM_207 rfl d_RM_isMark_16 ?_
    refine j_callVi C mv_RM_219 [.int (1 : Int32), .int (σ k0 19)] [] h0k (c_RM_broken h0k (1 : Int32) (σ k0 19) σ) rfl rfl (by decide) (Nat.le_of_ble_eq_true rfl) d_RM_isMark_19 ?_
    refine j_genIMz (z_RM_broken _ _ _ _) (fun q321 q321_z => ?_)
    exact j_iretz C (fun ρ h => leaf_eq h) (nz01 q321_z) d_RM_isMark_22
theorem c_RM_isMark {l : Launch} {D : va_G} {G : GC} {ad : Nat → Nat} {k0 : Nat} (h0k : Is k0 11) (σ : Mem) {q : Int32 × Mem} (hq : f_RM_isMark k0 σ = some q) : Ctr l D G ad ⟨"LineFramesModel", "isMark", "()Z"⟩ prog_13_method_37_code 7 (some .boolean) 1 22 [.ref (ad k0)] σ (.inl (some (.int q.1)), q.2) := ctr_J (cv := (cvO cvIM)) (E := f_RM_isMark k0 σ) (by decide +kernel) (Nat.le_of_ble_eq_true rfl) (by rw [hq]; rfl) (fun F h C => by subst h; exact w_RM_isMark C h0k σ)
/-! LineFramesModel wide (I)I -/
theorem d_RM_wide_0 : decode prog_13_method_36_code 0 = .ok (.sipush 256, 3) := by decide +kernel
theorem d_RM_wide_3 : decode prog_13_method_36_code 3 = .ok (.aload_n 0, 1) := by decide +kernel
theorem d_RM_wide_4 : decode prog_13_method_36_code 4 = .ok (.getfield 32, 3) := by decide +kernel
theorem d_RM_wide_7 : decode prog_13_method_36_code 7 = .ok (.iload_n 1, 1) := by decide +kernel
theorem d_RM_wide_8 : decode prog_13_method_36_code 8 = .ok (.iaload, 1) := by decide +kernel
theorem d_RM_wide_9 : decode prog_13_method_36_code 9 = .ok (.imul, 1) := by decide +kernel
theorem d_RM_wide_10 : decode prog_13_method_36_code 10 = .ok (.aload_n 0, 1) := by decide +kernel
theorem d_RM_wide_11 : decode prog_13_method_36_code 11 = .ok (.getfield 32, 3) := by decide +kernel
theorem d_RM_wide_14 : decode prog_13_method_36_code 14 = .ok (.iload_n 1, 1) := by decide +kernel
theorem d_RM_wide_15 : decode prog_13_method_36_code 15 = .ok (.iconst 1, 1) := by decide +kernel
theorem d_RM_wide_16 : decode prog_13_method_36_code 16 = .ok (.iadd, 1) := by decide +kernel
theorem d_RM_wide_17 : decode prog_13_method_36_code 17 = .ok (.iaload, 1) := by decide +kernel
theorem d_RM_wide_18 : decode prog_13_method_36_code 18 = .ok (.iadd, 1) := by decide +kernel
theorem d_RM_wide_19 : decode prog_13_method_36_code 19 = .ok (.ireturn, 1) := by decide +kernel
def f_RM_wide (k0 : Nat) (x1 : Int32) (σ : Mem) : Option (Int32) :=
  if inb x1 (wln (wtg k0 18)) = true then
  if inb (x1 + (1 : Int32)) (wln (wtg k0 18)) = true then
  some (((256 : Int32) * (σ (wtg k0 18) x1.toNatClampNeg)) + (σ (wtg k0 18) (x1 + (1 : Int32)).toNatClampNeg))
  else none
  else none
set_option maxHeartbeats 4000000 in
set_option maxRecDepth 100000 in
theorem w_RM_wide {F : Fx} (C : Ctx F prog_13_method_36_code 2 "LineFramesModel" (some .int) 0 0) {k0 : Nat} (h0k : Is k0 11) (x1 : Int32) (σ : Mem) : J F 2 (cvO (cvI σ)) (f_RM_wide k0 x1 σ) σ 0 [(0, .ref (fad F k0)), (1, .int x1)] [] := by
  unfold f_RM_wide
  refine j_sipush (v := (256 : Int32)) C d_RM_wide_0 (by decide) ?_
  refine j_aload_n C d_RM_wide_3 0 rfl ?_
  refine j_getR C h0k fl_RM_32 rfl d_RM_wide_4 ?_
  refine j_iload_n C d_RM_wide_7 1 rfl ?_
  refine j_need rfl (fun g1 => ?_)
  refine j_iald C (tg_11_18 _ h0k) (inb_in g1) d_RM_wide_8 ?_
  refine j_imul C d_RM_wide_9 ?_
  refine j_aload_n C d_RM_wide_10 0 rfl ?_
  refine j_getR C h0k fl_RM_32 rfl d_RM_wide_11 ?_
  refine j_iload_n C d_RM_wide_14 1 rfl ?_
  refine j_iconst (v := (1 : Int32)) C d_RM_wide_15 (by decide) ?_
  refine j_iadd C d_RM_wide_16 ?_
  refine j_need rfl (fun g2 => ?_)
  refine j_iald C (tg_11_18 _ h0k) (inb_in g2) d_RM_wide_17 ?_
  refine j_iadd C d_RM_wide_18 ?_
  exact j_ireti C (fun ρ h => leaf_eq h) d_RM_wide_19
theorem c_RM_wide {l : Launch} {D : va_G} {G : GC} {ad : Nat → Nat} {k0 : Nat} (h0k : Is k0 11) (x1 : Int32) (σ : Mem) {q : Int32} (hq : f_RM_wide k0 x1 σ = some q) : Ctr l D G ad ⟨"LineFramesModel", "wide", "(I)I"⟩ prog_13_method_36_code 2 (some .int) 0 0 [.ref (ad k0), .int x1] σ (.inl (some (.int q)), σ) := ctr_J (cv := (cvO (cvI σ))) (E := f_RM_wide k0 x1 σ) (by decide +kernel) (Nat.le_of_ble_eq_true rfl) (by rw [hq]; rfl) (fun F h C => by subst h; exact w_RM_wide C h0k x1 σ)
/-! LineFramesModel isSegment ()Z -/
theorem d_RM_isSegment_0 : decode prog_13_method_38_code 0 = .ok (.aload_n 0, 1) := by decide +kernel
theorem d_RM_isSegment_1 : decode prog_13_method_38_code 1 = .ok (.getfield 207, 3) := by decide +kernel
theorem d_RM_isSegment_4 : decode prog_13_method_38_code 4 = .ok (.aload_n 0, 1) := by decide +kernel
theorem d_RM_isSegment_5 : decode prog_13_method_38_code 5 = .ok (.getfield 216, 3) := by decide +kernel
theorem d_RM_isSegment_8 : decode prog_13_method_38_code 8 = .ok (.isub, 1) := by decide +kernel
theorem d_RM_isSegment_9 : decode prog_13_method_38_code 9 = .ok (.iconst 4, 1) := by decide +kernel
theorem d_RM_isSegment_10 : decode prog_13_method_38_code 10 = .ok (.if_icmp .ge 13, 3) := by decide +kernel
theorem d_RM_isSegment_13 : decode prog_13_method_38_code 13 = .ok (.aload_n 0, 1) := by decide +kernel
theorem d_RM_isSegment_14 : decode prog_13_method_38_code 14 = .ok (.iconst 1, 1) := by decide +kernel
theorem d_RM_isSegment_15 : decode prog_13_method_38_code 15 = .ok (.aload_n 0, 1) := by decide +kernel
theorem d_RM_isSegment_16 : decode prog_13_method_38_code 16 = .ok (.getfield 207, 3) := by decide +kernel
theorem d_RM_isSegment_19 : decode prog_13_method_38_code 19 = .ok (.invokevirtual 219, 3) := by decide +kernel
theorem d_RM_isSegment_22 : decode prog_13_method_38_code 22 = .ok (.ireturn, 1) := by decide +kernel
theorem d_RM_isSegment_23 : decode prog_13_method_38_code 23 = .ok (.aload_n 0, 1) := by decide +kernel
theorem d_RM_isSegment_24 : decode prog_13_method_38_code 24 = .ok (.aload_n 0, 1) := by decide +kernel
theorem d_RM_isSegment_25 : decode prog_13_method_38_code 25 = .ok (.getfield 216, 3) := by decide +kernel
theorem d_RM_isSegment_28 : decode prog_13_method_38_code 28 = .ok (.iconst 2, 1) := by decide +kernel
theorem d_RM_isSegment_29 : decode prog_13_method_38_code 29 = .ok (.iadd, 1) := by decide +kernel
theorem d_RM_isSegment_30 : decode prog_13_method_38_code 30 = .ok (.invokevirtual 230, 3) := by decide +kernel
theorem d_RM_isSegment_33 : decode prog_13_method_38_code 33 = .ok (.iconst 2, 1) := by decide +kernel
theorem d_RM_isSegment_34 : decode prog_13_method_38_code 34 = .ok (.if_icmp .ge 13, 3) := by decide +kernel
theorem d_RM_isSegment_37 : decode prog_13_method_38_code 37 = .ok (.aload_n 0, 1) := by decide +kernel
theorem d_RM_isSegment_38 : decode prog_13_method_38_code 38 = .ok (.iconst 3, 1) := by decide +kernel
theorem d_RM_isSegment_39 : decode prog_13_method_38_code 39 = .ok (.aload_n 0, 1) := by decide +kernel
theorem d_RM_isSegment_40 : decode prog_13_method_38_code 40 = .ok (.getfield 216, 3) := by decide +kernel
theorem d_RM_isSegment_43 : decode prog_13_method_38_code 43 = .ok (.invokevirtual 219, 3) := by decide +kernel
theorem d_RM_isSegment_46 : decode prog_13_method_38_code 46 = .ok (.ireturn, 1) := by decide +kernel
theorem d_RM_isSegment_47 : decode prog_13_method_38_code 47 = .ok (.aload_n 0, 1) := by decide +kernel
theorem d_RM_isSegment_48 : decode prog_13_method_38_code 48 = .ok (.getfield 207, 3) := by decide +kernel
theorem d_RM_isSegment_51 : decode prog_13_method_38_code 51 = .ok (.aload_n 0, 1) := by decide +kernel
theorem d_RM_isSegment_52 : decode prog_13_method_38_code 52 = .ok (.getfield 216, 3) := by decide +kernel
theorem d_RM_isSegment_55 : decode prog_13_method_38_code 55 = .ok (.isub, 1) := by decide +kernel
theorem d_RM_isSegment_56 : decode prog_13_method_38_code 56 = .ok (.iconst 2, 1) := by decide +kernel
theorem d_RM_isSegment_57 : decode prog_13_method_38_code 57 = .ok (.isub, 1) := by decide +kernel
theorem d_RM_isSegment_58 : decode prog_13_method_38_code 58 = .ok (.aload_n 0, 1) := by decide +kernel
theorem d_RM_isSegment_59 : decode prog_13_method_38_code 59 = .ok (.aload_n 0, 1) := by decide +kernel
theorem d_RM_isSegment_60 : decode prog_13_method_38_code 60 = .ok (.getfield 216, 3) := by decide +kernel
theorem d_RM_isSegment_63 : decode prog_13_method_38_code 63 = .ok (.iconst 2, 1) := by decide +kernel
theorem d_RM_isSegment_64 : decode prog_13_method_38_code 64 = .ok (.iadd, 1) := by decide +kernel
theorem d_RM_isSegment_65 : decode prog_13_method_38_code 65 = .ok (.invokevirtual 230, 3) := by decide +kernel
theorem d_RM_isSegment_68 : decode prog_13_method_38_code 68 = .ok (.if_icmp .ge 15, 3) := by decide +kernel
theorem d_RM_isSegment_71 : decode prog_13_method_38_code 71 = .ok (.aload_n 0, 1) := by decide +kernel
theorem d_RM_isSegment_72 : decode prog_13_method_38_code 72 = .ok (.iconst 1, 1) := by decide +kernel
theorem d_RM_isSegment_73 : decode prog_13_method_38_code 73 = .ok (.aload_n 0, 1) := by decide +kernel
theorem d_RM_isSegment_74 : decode prog_13_method_38_code 74 = .ok (.getfield 207, 3) := by decide +kernel
theorem d_RM_isSegment_77 : decode prog_13_method_38_code 77 = .ok (.invokevirtual 219, 3) := by decide +kernel
theorem d_RM_isSegment_80 : decode prog_13_method_38_code 80 = .ok (.ifCond .eq 7, 3) := by decide +kernel
theorem d_RM_isSegment_83 : decode prog_13_method_38_code 83 = .ok (.iconst 1, 1) := by decide +kernel
theorem d_RM_isSegment_84 : decode prog_13_method_38_code 84 = .ok (.goto 4, 3) := by decide +kernel
theorem d_RM_isSegment_87 : decode prog_13_method_38_code 87 = .ok (.iconst 0, 1) := by decide +kernel
theorem d_RM_isSegment_88 : decode prog_13_method_38_code 88 = .ok (.ireturn, 1) := by decide +kernel
def f_RM_isSegment (k0 : Nat) (σ : Mem) : Option (Int32 × Mem) :=
  if (4 : Int32) ≤ ((σ k0 19) - (σ k0 32)) then
  (f_RM_wide k0 ((σ k0 32) + (2 : Int32)) σ).bind fun r3 =>
  if (2 : Int32) ≤ r3 then
  (f_RM_wide k0 ((σ k0 32) + (2 : Int32)) σ).bind fun r6 =>
  if r6 ≤ (((σ k0 19) - (σ k0 32)) - (2 : Int32)) then
  some ((1 : Int32), σ)
  else
  lt (f_RM_broken k0 (1 : Int32) (σ k0 19) σ) fun q14 =>
  some ((if q14.1 = 0 then (0 : Int32) else (1 : Int32)), q14.2)
  else
  lt (f_RM_broken k0 (3 : Int32) (σ k0 32) σ) fun q17 =>
  some (q17.1, q17.2)
  else
  lt (f_RM_broken k0 (1 : Int32) (σ k0 19) σ) fun q18 =>
  some (q18.1, q18.2)
set_option maxHeartbeats 4000000 in
set_option maxRecDepth 100000 in
theorem w_RM_isSegment {F : Fx} (C : Ctx F prog_13_method_38_code 1 "LineFramesModel" (some .boolean) 1 22) {k0 : Nat} (h0k : Is k0 11) (σ : Mem) : J F 1 (cvO cvIM) (f_RM_isSegment k0 σ) σ 0 [(0, .ref (fad F k0))] [] := by
  unfold f_RM_isSegment
  refine j_aload_n C d_RM_isSegment_0 0 rfl ?_
  refine j_getI C h0k fl_RM_207 rfl d_RM_isSegment_1 ?_
  refine j_aload_n C d_RM_isSegment_4 0 rfl ?_
  refine j_getI C h0k fl_RM_216 rfl d_RM_isSegment_5 ?_
  refine j_isub C d_RM_isSegment_8 ?_
  refine j_iconst (v := (4 : Int32)) C d_RM_isSegment_9 (by decide) ?_
  refine j_icmp_ge (tgt := 23) C d_RM_isSegment_10 (by decide) (fun c1 => ?_) (fun c1 => ?_)
  · refine j_aload_n C d_RM_isSegment_23 0 rfl ?_
    refine j_aload_n C d_RM_isSegment_24 0 rfl ?_
    refine j_getI C h0k fl_RM_216 rfl d_RM_isSegment_25 ?_
    refine j_iconst (v := (2 : Int32)) C d_RM_isSegment_28 (by decide) ?_
    refine j_iadd C d_RM_isSegment_29 ?_
    refine j_bind rfl (fun r3 e2 => ?_)
    refine j_callVi C mv_RM_230 [.int ((σ k0 32) + (2 : Int32))] [] h0k (c_RM_wide h0k ((σ k0 32) + (2 : Int32)) σ e2) rfl rfl (by decide) (Nat.le_of_ble_eq_true rfl) d_RM_isSegment_30 ?_
    refine j_iconst (v := (2 : Int32)) C d_RM_isSegment_33 (by decide) ?_
    refine j_icmp_ge (tgt := 47) C d_RM_isSegment_34 (by decide) (fun c4 => ?_) (fun c4 => ?_)
    · refine j_aload_n C d_RM_isSegment_47 0 rfl ?_
      refine j_getI C h0k fl_RM_207 rfl d_RM_isSegment_48 ?_
      refine j_aload_n C d_RM_isSegment_51 0 rfl ?_
      refine j_getI C h0k fl_RM_216 rfl d_RM_isSegment_52 ?_
      refine j_isub C d_RM_isSegment_55 ?_
      refine j_iconst (v := (2 : Int32)) C d_RM_isSegment_56 (by decide) ?_
      refine j_isub C d_RM_isSegment_57 ?_
      refine j_aload_n C d_RM_isSegment_58 0 rfl ?_
      refine j_aload_n C d_RM_isSegment_59 0 rfl ?_
      refine j_getI C h0k fl_RM_216 rfl d_RM_isSegment_60 ?_
      refine j_iconst (v := (2 : Int32)) C d_RM_isSegment_63 (by decide) ?_
      refine j_iadd C d_RM_isSegment_64 ?_
      refine j_bind rfl (fun r6 e5 => ?_)
      refine j_callVi C mv_RM_230 [.int ((σ k0 32) + (2 : Int32))] [.int (((σ k0 19) - (σ k0 32)) - (2 : Int32))] h0k (c_RM_wide h0k ((σ k0 32) + (2 : Int32)) σ e5) rfl rfl (by decide) (Nat.le_of_ble_eq_true rfl) d_RM_isSegment_65 ?_
      refine j_icmp_ge (tgt := 83) C d_RM_isSegment_68 (by decide) (fun c13 => ?_) (fun c13 => ?_)
      · refine j_iconst (v := (1 : Int32)) C d_RM_isSegment_83 (by decide) ?_
        refine j_goto (tgt := 88) C d_RM_isSegment_84 (by decide) ?_
        exact j_iretz C (fun ρ h => leaf_eq h) (nz01 (Or.inr rfl)) d_RM_isSegment_88
      · refine j_aload_n C d_RM_isSegment_71 0 rfl ?_
        refine j_iconst (v := (1 : Int32)) C d_RM_isSegment_72 (by decide) ?_
        refine j_aload_n C d_RM_isSegment_73 0 rfl ?_
        refine j_getI C h0k fl_RM_207 rfl d_RM_isSegment_74 ?_
        refine j_callVi C mv_RM_219 [.int (1 : Int32), .int (σ k0 19)] [] h0k (c_RM_broken h0k (1 : Int32) (σ k0 19) σ) rfl rfl (by decide) (Nat.le_of_ble_eq_true rfl) d_RM_isSegment_77 ?_
        refine j_genIMz (z_RM_broken _ _ _ _) (fun q14 q14_z => ?_)
        refine d_if_eq (a := (0 : Int32)) (b := (1 : Int32)) (jp := 88) (tgt := 87) C d_RM_isSegment_80 (by decide) (fun c15 k16 => ?_) (fun c15 k16 => ?_) ?_
        · refine j_iconst (v := (0 : Int32)) C d_RM_isSegment_87 (by decide) ?_
          exact k16
        · refine j_iconst (v := (1 : Int32)) C d_RM_isSegment_83 (by decide) ?_
          refine j_goto (tgt := 88) C d_RM_isSegment_84 (by decide) ?_
          exact k16
        exact j_iretz C (fun ρ h => leaf_eq h) (nz01 (ite01 (Or.inl rfl) (Or.inr rfl))) d_RM_isSegment_88
    · refine j_aload_n C d_RM_isSegment_37 0 rfl ?_
      refine j_iconst (v := (3 : Int32)) C d_RM_isSegment_38 (by decide) ?_
      refine j_aload_n C d_RM_isSegment_39 0 rfl ?_
      refine j_getI C h0k fl_RM_216 rfl d_RM_isSegment_40 ?_
      refine j_callVi C mv_RM_219 [.int (3 : Int32), .int (σ k0 32)] [] h0k (c_RM_broken h0k (3 : Int32) (σ k0 32) σ) rfl rfl (by decide) (Nat.le_of_ble_eq_true rfl) d_RM_isSegment_43 ?_
      refine j_genIMz (z_RM_broken _ _ _ _) (fun q17 q17_z => ?_)
      exact j_iretz C (fun ρ h => leaf_eq h) (nz01 q17_z) d_RM_isSegment_46
  · refine j_aload_n C d_RM_isSegment_13 0 rfl ?_
    refine j_iconst (v := (1 : Int32)) C d_RM_isSegment_14 (by decide) ?_
    refine j_aload_n C d_RM_isSegment_15 0 rfl ?_
    refine j_getI C h0k fl_RM_207 rfl d_RM_isSegment_16 ?_
    refine j_callVi C mv_RM_219 [.int (1 : Int32), .int (σ k0 19)] [] h0k (c_RM_broken h0k (1 : Int32) (σ k0 19) σ) rfl rfl (by decide) (Nat.le_of_ble_eq_true rfl) d_RM_isSegment_19 ?_
    refine j_genIMz (z_RM_broken _ _ _ _) (fun q18 q18_z => ?_)
    exact j_iretz C (fun ρ h => leaf_eq h) (nz01 q18_z) d_RM_isSegment_22
theorem c_RM_isSegment {l : Launch} {D : va_G} {G : GC} {ad : Nat → Nat} {k0 : Nat} (h0k : Is k0 11) (σ : Mem) {q : Int32 × Mem} (hq : f_RM_isSegment k0 σ = some q) : Ctr l D G ad ⟨"LineFramesModel", "isSegment", "()Z"⟩ prog_13_method_38_code 1 (some .boolean) 1 22 [.ref (ad k0)] σ (.inl (some (.int q.1)), q.2) := ctr_J (cv := (cvO cvIM)) (E := f_RM_isSegment k0 σ) (by decide +kernel) (Nat.le_of_ble_eq_true rfl) (by rw [hq]; rfl) (fun F h C => by subst h; exact w_RM_isSegment C h0k σ)
