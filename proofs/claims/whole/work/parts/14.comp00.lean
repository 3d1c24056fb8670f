/-! LineFrames$Picture measure (IIII)V -/
theorem d_PI_measure_0 : decode prog_8_method_5_code 0 = .ok (.aload_n 0, 1) := by decide +kernel
theorem d_PI_measure_1 : decode prog_8_method_5_code 1 = .ok (.iload_n 1, 1) := by decide +kernel
theorem d_PI_measure_2 : decode prog_8_method_5_code 2 = .ok (.putfield 36, 3) := by decide +kernel
theorem d_PI_measure_5 : decode prog_8_method_5_code 5 = .ok (.aload_n 0, 1) := by decide +kernel
theorem d_PI_measure_6 : decode prog_8_method_5_code 6 = .ok (.iload_n 2, 1) := by decide +kernel
theorem d_PI_measure_7 : decode prog_8_method_5_code 7 = .ok (.putfield 40, 3) := by decide +kernel
theorem d_PI_measure_10 : decode prog_8_method_5_code 10 = .ok (.aload_n 0, 1) := by decide +kernel
theorem d_PI_measure_11 : decode prog_8_method_5_code 11 = .ok (.iload_n 3, 1) := by decide +kernel
theorem d_PI_measure_12 : decode prog_8_method_5_code 12 = .ok (.putfield 43, 3) := by decide +kernel
theorem d_PI_measure_15 : decode prog_8_method_5_code 15 = .ok (.aload_n 0, 1) := by decide +kernel
theorem d_PI_measure_16 : decode prog_8_method_5_code 16 = .ok (.iload 4, 2) := by decide +kernel
theorem d_PI_measure_18 : decode prog_8_method_5_code 18 = .ok (.putfield 46, 3) := by decide +kernel
theorem d_PI_measure_21 : decode prog_8_method_5_code 21 = .ok (.return_, 1) := by decide +kernel
def f_PI_measure (k0 : Nat) (x1 : Int32) (x2 : Int32) (x3 : Int32) (x4 : Int32) (σ : Mem) : Mem :=
  lt (mput σ k0 5 x1) fun σ1 =>
  lt (mput σ1 k0 6 x2) fun σ2 =>
  lt (mput σ2 k0 7 x3) fun σ3 =>
  lt (mput σ3 k0 8 x4) fun σ4 =>
  σ4
set_option maxHeartbeats 4000000 in
set_option maxRecDepth 100000 in
theorem w_PI_measure {F : Fx} (C : Ctx F prog_8_method_5_code 5 "LineFrames$Picture" none 0 0) {k0 : Nat} (h0k : Is k0 7) (x1 : Int32) (x2 : Int32) (x3 : Int32) (x4 : Int32) (σ : Mem) : J F 5 cvM (f_PI_measure k0 x1 x2 x3 x4 σ) σ 0 [(0, .ref (fad F k0)), (1, .int x1), (2, .int x2), (3, .int x3), (4, .int x4)] [] := by
  unfold f_PI_measure
  refine j_aload_n C d_PI_measure_0 0 rfl ?_
  refine j_iload_n C d_PI_measure_1 1 rfl ?_
  refine j_put C h0k fl_PI_36 fw_7_5 rfl rfl rfl d_PI_measure_2 (fun σ1 => ?_)
  refine j_aload_n C d_PI_measure_5 0 rfl ?_
  refine j_iload_n C d_PI_measure_6 2 rfl ?_
  refine j_put C h0k fl_PI_40 fw_7_6 rfl rfl rfl d_PI_measure_7 (fun σ2 => ?_)
  refine j_aload_n C d_PI_measure_10 0 rfl ?_
  refine j_iload_n C d_PI_measure_11 3 rfl ?_
  refine j_put C h0k fl_PI_43 fw_7_7 rfl rfl rfl d_PI_measure_12 (fun σ3 => ?_)
  refine j_aload_n C d_PI_measure_15 0 rfl ?_
  refine j_iload C d_PI_measure_16 4 rfl ?_
  refine j_put C h0k fl_PI_46 fw_7_8 rfl rfl rfl d_PI_measure_18 (fun σ4 => ?_)
  exact j_vret C (fun ρ h => leaf_eq h) d_PI_measure_21
theorem c_PI_measure {l : Launch} {D : va_G} {G : GC} {ad : Nat → Nat} {k0 : Nat} (h0k : Is k0 7) (x1 : Int32) (x2 : Int32) (x3 : Int32) (x4 : Int32) (σ : Mem) : Ctr l D G ad ⟨"LineFrames$Picture", "measure", "(IIII)V"⟩ prog_8_method_5_code 5 none 0 0 [.ref (ad k0), .int x1, .int x2, .int x3, .int x4] σ (.inl none, (f_PI_measure k0 x1 x2 x3 x4 σ)) := ctr_J (cv := cvM) (E := f_PI_measure k0 x1 x2 x3 x4 σ) (by decide +kernel) (Nat.le_of_ble_eq_true rfl) rfl (fun F h C => by subst h; exact w_PI_measure C h0k x1 x2 x3 x4 σ)
/-! LineFrames$Row fill (I)V -/
theorem d_RO_fill_0 : decode prog_9_method_4_code 0 = .ok (.iconst 0, 1) := by decide +kernel
theorem d_RO_fill_1 : decode prog_9_method_4_code 1 = .ok (.istore_n 2, 1) := by decide +kernel
theorem d_RO_fill_2 : decode prog_9_method_4_code 2 = .ok (.iload_n 2, 1) := by decide +kernel
theorem d_RO_fill_3 : decode prog_9_method_4_code 3 = .ok (.aload_n 0, 1) := by decide +kernel
theorem d_RO_fill_4 : decode prog_9_method_4_code 4 = .ok (.getfield 13, 3) := by decide +kernel
theorem d_RO_fill_7 : decode prog_9_method_4_code 7 = .ok (.arraylength, 1) := by decide +kernel
theorem d_RO_fill_8 : decode prog_9_method_4_code 8 = .ok (.if_icmp .ge 16, 3) := by decide +kernel
theorem d_RO_fill_11 : decode prog_9_method_4_code 11 = .ok (.aload_n 0, 1) := by decide +kernel
theorem d_RO_fill_12 : decode prog_9_method_4_code 12 = .ok (.getfield 13, 3) := by decide +kernel
theorem d_RO_fill_15 : decode prog_9_method_4_code 15 = .ok (.iload_n 2, 1) := by decide +kernel
theorem d_RO_fill_16 : decode prog_9_method_4_code 16 = .ok (.iload_n 1, 1) := by decide +kernel
theorem d_RO_fill_17 : decode prog_9_method_4_code 17 = .ok (.iastore, 1) := by decide +kernel
theorem d_RO_fill_18 : decode prog_9_method_4_code 18 = .ok (.iinc 2 1, 3) := by decide +kernel
theorem d_RO_fill_21 : decode prog_9_method_4_code 21 = .ok (.goto (-19), 3) := by decide +kernel
theorem d_RO_fill_24 : decode prog_9_method_4_code 24 = .ok (.return_, 1) := by decide +kernel
def L_RO_fill_2 (r0 : Nat) (b1 : Int32) : Nat → Int32 → Mem →  Option (Int32 × Mem)
  | 0, _, _ => none
  | n + 1, a2, σ =>
  if (nI (wln (wtg r0 0))) ≤ a2 then
  some (a2, σ)
  else
  if inb a2 (wln (wtg r0 0)) = true then
  lt (mput σ (wtg r0 0) a2.toNatClampNeg b1) fun σ3 =>
  L_RO_fill_2 r0 b1 n (a2 + (1 : Int32)) σ3
  else none
def f_RO_fill (k0 : Nat) (x1 : Int32) (σ : Mem) : Option (Mem) :=
  (L_RO_fill_2 k0 x1 9999 (0 : Int32) σ).bind fun q4 =>
  some (q4.2)
set_option maxHeartbeats 4000000 in
set_option maxRecDepth 100000 in
theorem wL_RO_fill_2 {F : Fx} (C : Ctx F prog_9_method_4_code 3 "LineFrames$Row" none 0 0) {cv : Option (Int32 × Mem) → Option Rs} (h0 : cv none = none) (r0 : Nat) (hr0 : Is r0 8) (b1 : Int32) (hex : ∀ q : Int32 × Mem, J F 3 cv (some q) q.2 24 [(0, .ref (fad F r0)), (1, .int b1), (2, .int q.1)] []) : ∀ (n : Nat) (a2 : Int32) (σ : Mem), J F 3 cv (L_RO_fill_2 r0 b1 n a2 σ) σ 2 [(0, .ref (fad F r0)), (1, .int b1), (2, .int a2)] [] := by
  intro n
  induction n with
  | zero => intro a2 σ hE; rw [L_RO_fill_2, h0] at hE; cases hE
  | succ n ih =>
    intro a2 σ
    rw [L_RO_fill_2]
    refine j_iload_n C d_RO_fill_2 2 rfl ?_
    refine j_aload_n C d_RO_fill_3 0 rfl ?_
    refine j_getR C hr0 fl_RO_13 rfl d_RO_fill_4 ?_
    refine j_alen C (tg_8_0 _ hr0) d_RO_fill_7 ?_
    refine j_icmp_ge (tgt := 24) C d_RO_fill_8 (by decide) (fun c1 => ?_) (fun c1 => ?_)
    · exact hex (a2, σ)
    · refine j_aload_n C d_RO_fill_11 0 rfl ?_
      refine j_getR C hr0 fl_RO_13 rfl d_RO_fill_12 ?_
      refine j_iload_n C d_RO_fill_15 2 rfl ?_
      refine j_iload_n C d_RO_fill_16 1 rfl ?_
      refine j_need (by exact h0) (fun g2 => ?_)
      refine j_iast C (tg_8_0 _ hr0) (inb_in g2) d_RO_fill_17 (fun σ3 => ?_)
      refine j_iinc (v := (a2 + (1 : Int32))) (lv9 := [(0, .ref (fad F r0)), (1, .int b1), (2, .int (a2 + (1 : Int32)))]) C d_RO_fill_18 2 rfl rfl rfl rfl (by decide) ?_
      refine j_goto (tgt := 2) C d_RO_fill_21 (by decide) ?_
      exact ih (a2 + (1 : Int32)) σ3
set_option maxHeartbeats 4000000 in
set_option maxRecDepth 100000 in
theorem w_RO_fill {F : Fx} (C : Ctx F prog_9_method_4_code 3 "LineFrames$Row" none 0 0) {k0 : Nat} (h0k : Is k0 8) (x1 : Int32) (σ : Mem) : J F 3 (cvO cvM) (f_RO_fill k0 x1 σ) σ 0 [(0, .ref (fad F k0)), (1, .int x1)] [] := by
  unfold f_RO_fill
  refine j_iconst (v := (0 : Int32)) C d_RO_fill_0 (by decide) ?_
  refine j_istore_n (lv9 := [(0, .ref (fad F k0)), (1, .int x1), (2, .int (0 : Int32))]) C d_RO_fill_1 rfl rfl (by decide) ?_
  refine j_loop (wL_RO_fill_2 C rfl k0 h0k x1 (fun q4 => j_some ?_) 9999 (0 : Int32) σ)
  exact j_vret C (fun ρ h => leaf_eq h) d_RO_fill_24
theorem c_RO_fill {l : Launch} {D : va_G} {G : GC} {ad : Nat → Nat} {k0 : Nat} (h0k : Is k0 8) (x1 : Int32) (σ : Mem) {q : Mem} (hq : f_RO_fill k0 x1 σ = some q) : Ctr l D G ad ⟨"LineFrames$Row", "fill", "(I)V"⟩ prog_9_method_4_code 3 none 0 0 [.ref (ad k0), .int x1] σ (.inl none, q) := ctr_J (cv := (cvO cvM)) (E := f_RO_fill k0 x1 σ) (by decide +kernel) (Nat.le_of_ble_eq_true rfl) (by rw [hq]; rfl) (fun F h C => by subst h; exact w_RO_fill C h0k x1 σ)
/-! LineFrames$Notes clear ()V -/
theorem d_NO_clear_0 : decode prog_7_method_10_code 0 = .ok (.aload_n 0, 1) := by decide +kernel
theorem d_NO_clear_1 : decode prog_7_method_10_code 1 = .ok (.iconst 0, 1) := by decide +kernel
theorem d_NO_clear_2 : decode prog_7_method_10_code 2 = .ok (.putfield 26, 3) := by decide +kernel
theorem d_NO_clear_5 : decode prog_7_method_10_code 5 = .ok (.return_, 1) := by decide +kernel
def f_NO_clear (k0 : Nat) (σ : Mem) : Mem :=
  lt (mput σ k0 3 (0 : Int32)) fun σ1 =>
  σ1
set_option maxHeartbeats 4000000 in
set_option maxRecDepth 100000 in
theorem w_NO_clear {F : Fx} (C : Ctx F prog_7_method_10_code 1 "LineFrames$Notes" none 0 0) {k0 : Nat} (h0k : Is k0 6) (σ : Mem) : J F 1 cvM (f_NO_clear k0 σ) σ 0 [(0, .ref (fad F k0))] [] := by
  unfold f_NO_clear
  refine j_aload_n C d_NO_clear_0 0 rfl ?_
  refine j_iconst (v := (0 : Int32)) C d_NO_clear_1 (by decide) ?_
  refine j_put C h0k fl_NO_26 fw_6_3 rfl rfl rfl d_NO_clear_2 (fun σ1 => ?_)
  exact j_vret C (fun ρ h => leaf_eq h) d_NO_clear_5
theorem c_NO_clear {l : Launch} {D : va_G} {G : GC} {ad : Nat → Nat} {k0 : Nat} (h0k : Is k0 6) (σ : Mem) : Ctr l D G ad ⟨"LineFrames$Notes", "clear", "()V"⟩ prog_7_method_10_code 1 none 0 0 [.ref (ad k0)] σ (.inl none, (f_NO_clear k0 σ)) := ctr_J (cv := cvM) (E := f_NO_clear k0 σ) (by decide +kernel) (Nat.le_of_ble_eq_true rfl) rfl (fun F h C => by subst h; exact w_NO_clear C h0k σ)
/-! LineFrames$Row set (II)V -/
theorem d_RO_set_0 : decode prog_9_method_3_code 0 = .ok (.iload_n 1, 1) := by decide +kernel
theorem d_RO_set_1 : decode prog_9_method_3_code 1 = .ok (.ifCond .lt 19, 3) := by decide +kernel
theorem d_RO_set_4 : decode prog_9_method_3_code 4 = .ok (.iload_n 1, 1) := by decide +kernel
theorem d_RO_set_5 : decode prog_9_method_3_code 5 = .ok (.aload_n 0, 1) := by decide +kernel
theorem d_RO_set_6 : decode prog_9_method_3_code 6 = .ok (.getfield 13, 3) := by decide +kernel
theorem d_RO_set_9 : decode prog_9_method_3_code 9 = .ok (.arraylength, 1) := by decide +kernel
theorem d_RO_set_10 : decode prog_9_method_3_code 10 = .ok (.if_icmp .ge 10, 3) := by decide +kernel
theorem d_RO_set_13 : decode prog_9_method_3_code 13 = .ok (.aload_n 0, 1) := by decide +kernel
theorem d_RO_set_14 : decode prog_9_method_3_code 14 = .ok (.getfield 13, 3) := by decide +kernel
theorem d_RO_set_17 : decode prog_9_method_3_code 17 = .ok (.iload_n 1, 1) := by decide +kernel
theorem d_RO_set_18 : decode prog_9_method_3_code 18 = .ok (.iload_n 2, 1) := by decide +kernel
theorem d_RO_set_19 : decode prog_9_method_3_code 19 = .ok (.iastore, 1) := by decide +kernel
theorem d_RO_set_20 : decode prog_9_method_3_code 20 = .ok (.return_, 1) := by decide +kernel
def f_RO_set (k0 : Nat) (x1 : Int32) (x2 : Int32) (σ : Mem) : Mem :=
  if x1 < 0 then
  σ
  else
  if (nI (wln (wtg k0 0))) ≤ x1 then
  σ
  else
  lt (mput σ (wtg k0 0) x1.toNatClampNeg x2) fun σ7 =>
  σ7
set_option maxHeartbeats 4000000 in
set_option maxRecDepth 100000 in
theorem w_RO_set {F : Fx} (C : Ctx F prog_9_method_3_code 3 "LineFrames$Row" none 0 0) {k0 : Nat} (h0k : Is k0 8) (x1 : Int32) (x2 : Int32) (σ : Mem) : J F 3 cvM (f_RO_set k0 x1 x2 σ) σ 0 [(0, .ref (fad F k0)), (1, .int x1), (2, .int x2)] [] := by
  unfold f_RO_set
  refine j_iload_n C d_RO_set_0 1 rfl ?_
  refine j_if_lt (tgt := 20) C d_RO_set_1 (by decide) (fun c3 => ?_) (fun c3 => ?_)
  · exact j_vret C (fun ρ h => leaf_eq h) d_RO_set_20
  · refine j_iload_n C d_RO_set_4 1 rfl ?_
    refine j_aload_n C d_RO_set_5 0 rfl ?_
    refine j_getR C h0k fl_RO_13 rfl d_RO_set_6 ?_
    refine j_alen C (tg_8_0 _ h0k) d_RO_set_9 ?_
    refine j_icmp_ge (tgt := 20) C d_RO_set_10 (by decide) (fun c6 => ?_) (fun c6 => ?_)
    · exact j_vret C (fun ρ h => leaf_eq h) d_RO_set_20
    · refine j_aload_n C d_RO_set_13 0 rfl ?_
      refine j_getR C h0k fl_RO_13 rfl d_RO_set_14 ?_
      refine j_iload_n C d_RO_set_17 1 rfl ?_
      refine j_iload_n C d_RO_set_18 2 rfl ?_
      refine j_iast C (tg_8_0 _ h0k) (vp_gd c3 c6 (wln_lt _)) d_RO_set_19 (fun σ7 => ?_)
      exact j_vret C (fun ρ h => leaf_eq h) d_RO_set_20
theorem c_RO_set {l : Launch} {D : va_G} {G : GC} {ad : Nat → Nat} {k0 : Nat} (h0k : Is k0 8) (x1 : Int32) (x2 : Int32) (σ : Mem) : Ctr l D G ad ⟨"LineFrames$Row", "set", "(II)V"⟩ prog_9_method_3_code 3 none 0 0 [.ref (ad k0), .int x1, .int x2] σ (.inl none, (f_RO_set k0 x1 x2 σ)) := ctr_J (cv := cvM) (E := f_RO_set k0 x1 x2 σ) (by decide +kernel) (Nat.le_of_ble_eq_true rfl) rfl (fun F h C => by subst h; exact w_RO_set C h0k x1 x2 σ)
/-! LineFrames$Picture clear ()V -/
theorem d_PI_clear_0 : decode prog_8_method_4_code 0 = .ok (.aload_n 0, 1) := by decide +kernel
theorem d_PI_clear_1 : decode prog_8_method_4_code 1 = .ok (.iconst 0, 1) := by decide +kernel
theorem d_PI_clear_2 : decode prog_8_method_4_code 2 = .ok (.iconst 0, 1) := by decide +kernel
theorem d_PI_clear_3 : decode prog_8_method_4_code 3 = .ok (.iconst 0, 1) := by decide +kernel
theorem d_PI_clear_4 : decode prog_8_method_4_code 4 = .ok (.iconst 0, 1) := by decide +kernel
theorem d_PI_clear_5 : decode prog_8_method_4_code 5 = .ok (.invokevirtual 49, 3) := by decide +kernel
theorem d_PI_clear_8 : decode prog_8_method_4_code 8 = .ok (.aload_n 0, 1) := by decide +kernel
theorem d_PI_clear_9 : decode prog_8_method_4_code 9 = .ok (.getfield 14, 3) := by decide +kernel
theorem d_PI_clear_12 : decode prog_8_method_4_code 12 = .ok (.iconst 0, 1) := by decide +kernel
theorem d_PI_clear_13 : decode prog_8_method_4_code 13 = .ok (.invokevirtual 53, 3) := by decide +kernel
theorem d_PI_clear_16 : decode prog_8_method_4_code 16 = .ok (.aload_n 0, 1) := by decide +kernel
theorem d_PI_clear_17 : decode prog_8_method_4_code 17 = .ok (.getfield 23, 3) := by decide +kernel
theorem d_PI_clear_20 : decode prog_8_method_4_code 20 = .ok (.iconst 0, 1) := by decide +kernel
theorem d_PI_clear_21 : decode prog_8_method_4_code 21 = .ok (.invokevirtual 53, 3) := by decide +kernel
theorem d_PI_clear_24 : decode prog_8_method_4_code 24 = .ok (.aload_n 0, 1) := by decide +kernel
theorem d_PI_clear_25 : decode prog_8_method_4_code 25 = .ok (.getfield 32, 3) := by decide +kernel
theorem d_PI_clear_28 : decode prog_8_method_4_code 28 = .ok (.invokevirtual 56, 3) := by decide +kernel
theorem d_PI_clear_31 : decode prog_8_method_4_code 31 = .ok (.aload_n 0, 1) := by decide +kernel
theorem d_PI_clear_32 : decode prog_8_method_4_code 32 = .ok (.getfield 20, 3) := by decide +kernel
theorem d_PI_clear_35 : decode prog_8_method_4_code 35 = .ok (.iconst 0, 1) := by decide +kernel
theorem d_PI_clear_36 : decode prog_8_method_4_code 36 = .ok (.bipush 64, 2) := by decide +kernel
theorem d_PI_clear_38 : decode prog_8_method_4_code 38 = .ok (.invokevirtual 59, 3) := by decide +kernel
theorem d_PI_clear_41 : decode prog_8_method_4_code 41 = .ok (.aload_n 0, 1) := by decide +kernel
theorem d_PI_clear_42 : decode prog_8_method_4_code 42 = .ok (.getfield 20, 3) := by decide +kernel
theorem d_PI_clear_45 : decode prog_8_method_4_code 45 = .ok (.iconst 1, 1) := by decide +kernel
theorem d_PI_clear_46 : decode prog_8_method_4_code 46 = .ok (.iconst 4, 1) := by decide +kernel
theorem d_PI_clear_47 : decode prog_8_method_4_code 47 = .ok (.invokevirtual 59, 3) := by decide +kernel
theorem d_PI_clear_50 : decode prog_8_method_4_code 50 = .ok (.aload_n 0, 1) := by decide +kernel
theorem d_PI_clear_51 : decode prog_8_method_4_code 51 = .ok (.getfield 20, 3) := by decide +kernel
theorem d_PI_clear_54 : decode prog_8_method_4_code 54 = .ok (.iconst 2, 1) := by decide +kernel
theorem d_PI_clear_55 : decode prog_8_method_4_code 55 = .ok (.iconst 0, 1) := by decide +kernel
theorem d_PI_clear_56 : decode prog_8_method_4_code 56 = .ok (.invokevirtual 59, 3) := by decide +kernel
theorem d_PI_clear_59 : decode prog_8_method_4_code 59 = .ok (.return_, 1) := by decide +kernel
def f_PI_clear (k0 : Nat) (σ : Mem) : Option (Mem) :=
  lt (f_PI_measure k0 (0 : Int32) (0 : Int32) (0 : Int32) (0 : Int32) σ) fun σ1 =>
  (f_RO_fill (wtg k0 0) (0 : Int32) σ1).bind fun σ3 =>
  (f_RO_fill (wtg k0 2) (0 : Int32) σ3).bind fun σ5 =>
  lt (f_NO_clear (wtg k0 4) σ5) fun σ6 =>
  lt (f_RO_set (wtg k0 1) (0 : Int32) (64 : Int32) σ6) fun σ7 =>
  lt (f_RO_set (wtg k0 1) (1 : Int32) (4 : Int32) σ7) fun σ8 =>
  lt (f_RO_set (wtg k0 1) (2 : Int32) (0 : Int32) σ8) fun σ9 =>
  some (σ9)
set_option maxHeartbeats 4000000 in
set_option maxRecDepth 100000 in
theorem w_PI_clear {F : Fx} (C : Ctx F prog_8_method_4_code 1 "LineFrames$Picture" none 1 24) {k0 : Nat} (h0k : Is k0 7) (σ : Mem) : J F 1 (cvO cvM) (f_PI_clear k0 σ) σ 0 [(0, .ref (fad F k0))] [] := by
  unfold f_PI_clear
  refine j_aload_n C d_PI_clear_0 0 rfl ?_
  refine j_iconst (v := (0 : Int32)) C d_PI_clear_1 (by decide) ?_
  refine j_iconst (v := (0 : Int32)) C d_PI_clear_2 (by decide) ?_
  refine j_iconst (v := (0 : Int32)) C d_PI_clear_3 (by decide) ?_
  refine j_iconst (v := (0 : Int32)) C d_PI_clear_4 (by decide) ?_
  refine j_callVv C mv_PI_49 [.int (0 : Int32), .int (0 : Int32), .int (0 : Int32), .int (0 : Int32)] [] h0k (c_PI_measure h0k (0 : Int32) (0 : Int32) (0 : Int32) (0 : Int32) σ) rfl rfl (by decide) (Nat.le_of_ble_eq_true rfl) d_PI_clear_5 ?_
  refine j_genM (fun σ1 => ?_)
  refine j_aload_n C d_PI_clear_8 0 rfl ?_
  refine j_getR C h0k fl_PI_14 rfl d_PI_clear_9 ?_
  refine j_iconst (v := (0 : Int32)) C d_PI_clear_12 (by decide) ?_
  refine j_bind rfl (fun σ3 e2 => ?_)
  refine j_callVv C mv_PI_53 [.int (0 : Int32)] [] (tg_7_0 _ h0k) (c_RO_fill (tg_7_0 _ h0k) (0 : Int32) σ1 e2) rfl rfl (by decide) (Nat.le_of_ble_eq_true rfl) d_PI_clear_13 ?_
  refine j_aload_n C d_PI_clear_16 0 rfl ?_
  refine j_getR C h0k fl_PI_23 rfl d_PI_clear_17 ?_
  refine j_iconst (v := (0 : Int32)) C d_PI_clear_20 (by decide) ?_
  refine j_bind rfl (fun σ5 e4 => ?_)
  refine j_callVv C mv_PI_53 [.int (0 : Int32)] [] (tg_7_2 _ h0k) (c_RO_fill (tg_7_2 _ h0k) (0 : Int32) σ3 e4) rfl rfl (by decide) (Nat.le_of_ble_eq_true rfl) d_PI_clear_21 ?_
  refine j_aload_n C d_PI_clear_24 0 rfl ?_
  refine j_getR C h0k fl_PI_32 rfl d_PI_clear_25 ?_
  refine j_callVv C mv_PI_56 [] [] (tg_7_4 _ h0k) (c_NO_clear (tg_7_4 _ h0k) σ5) rfl rfl (by decide) (Nat.le_of_ble_eq_true rfl) d_PI_clear_28 ?_
  refine j_genM (fun σ6 => ?_)
  refine j_aload_n C d_PI_clear_31 0 rfl ?_
  refine j_getR C h0k fl_PI_20 rfl d_PI_clear_32 ?_
  refine j_iconst (v := (0 : Int32)) C d_PI_clear_35 (by decide) ?_
  refine j_bipush (v := (64 : Int32)) C d_PI_clear_36 (by decide) ?_
  refine j_callVv C mv_PI_59 [.int (0 : Int32), .int (64 : Int32)] [] (tg_7_1 _ h0k) (c_RO_set (tg_7_1 _ h0k) (0 : Int32) (64 : Int32) σ6) rfl rfl (by decide) (Nat.le_of_ble_eq_true rfl) d_PI_clear_38 ?_
  refine j_genM (fun σ7 => ?_)
  refine j_aload_n C d_PI_clear_41 0 rfl ?_
  refine j_getR C h0k fl_PI_20 rfl d_PI_clear_42 ?_
  refine j_iconst (v := (1 : Int32)) C d_PI_clear_45 (by decide) ?_
  refine j_iconst (v := (4 : Int32)) C d_PI_clear_46 (by decide) ?_
  refine j_callVv C mv_PI_59 [.int (1 : Int32), .int (4 : Int32)] [] (tg_7_1 _ h0k) (c_RO_set (tg_7_1 _ h0k) (1 : Int32) (4 : Int32) σ7) rfl rfl (by decide) (Nat.le_of_ble_eq_true rfl) d_PI_clear_47 ?_
  refine j_genM (fun σ8 => ?_)
  refine j_aload_n C d_PI_clear_50 0 rfl ?_
  refine j_getR C h0k fl_PI_20 rfl d_PI_clear_51 ?_
  refine j_iconst (v := (2 : Int32)) C d_PI_clear_54 (by decide) ?_
  refine j_iconst (v := (0 : Int32)) C d_PI_clear_55 (by decide) ?_
  refine j_callVv C mv_PI_59 [.int (2 : Int32), .int (0 : Int32)] [] (tg_7_1 _ h0k) (c_RO_set (tg_7_1 _ h0k) (2 : Int32) (0 : Int32) σ8) rfl rfl (by decide) (Nat.le_of_ble_eq_true rfl) d_PI_clear_56 ?_
  refine j_genM (fun σ9 => ?_)
  exact j_vret C (fun ρ h => leaf_eq h) d_PI_clear_59
theorem c_PI_clear {l : Launch} {D : va_G} {G : GC} {ad : Nat → Nat} {k0 : Nat} (h0k : Is k0 7) (σ : Mem) {q : Mem} (hq : f_PI_clear k0 σ = some q) : Ctr l D G ad ⟨"LineFrames$Picture", "clear", "()V"⟩ prog_8_method_4_code 1 none 1 24 [.ref (ad k0)] σ (.inl none, q) := ctr_J (cv := (cvO cvM)) (E := f_PI_clear k0 σ) (by decide +kernel) (Nat.le_of_ble_eq_true rfl) (by rw [hq]; rfl) (fun F h C => by subst h; exact w_PI_clear C h0k σ)
/-! LineFrames$Fault clear ()V -/
theorem d_FA_clear_0 : decode prog_5_method_2_code 0 = .ok (.aload_n 0, 1) := by decide +kernel
theorem d_FA_clear_1 : decode prog_5_method_2_code 1 = .ok (.iconst 0, 1) := by decide +kernel
theorem d_FA_clear_2 : decode prog_5_method_2_code 2 = .ok (.putfield 7, 3) := by decide +kernel
theorem d_FA_clear_5 : decode prog_5_method_2_code 5 = .ok (.aload_n 0, 1) := by decide +kernel
theorem d_FA_clear_6 : decode prog_5_method_2_code 6 = .ok (.iconst 0, 1) := by decide +kernel
theorem d_FA_clear_7 : decode prog_5_method_2_code 7 = .ok (.putfield 13, 3) := by decide +kernel
theorem d_FA_clear_10 : decode prog_5_method_2_code 10 = .ok (.return_, 1) := by decide +kernel
def f_FA_clear (k0 : Nat) (σ : Mem) : Mem :=
  lt (mput σ k0 0 (0 : Int32)) fun σ1 =>
  lt (mput σ1 k0 1 (0 : Int32)) fun σ2 =>
  σ2
set_option maxHeartbeats 4000000 in
set_option maxRecDepth 100000 in
theorem w_FA_clear {F : Fx} (C : Ctx F prog_5_method_2_code 1 "LineFrames$Fault" none 0 0) {k0 : Nat} (h0k : Is k0 4) (σ : Mem) : J F 1 cvM (f_FA_clear k0 σ) σ 0 [(0, .ref (fad F k0))] [] := by
  unfold f_FA_clear
  refine j_aload_n C d_FA_clear_0 0 rfl ?_
  refine j_iconst (v := (0 : Int32)) C d_FA_clear_1 (by decide) ?_
  refine j_put C h0k fl_FA_7 fw_4_0 rfl rfl rfl d_FA_clear_2 (fun σ1 => ?_)
  refine j_aload_n C d_FA_clear_5 0 rfl ?_
  refine j_iconst (v := (0 : Int32)) C d_FA_clear_6 (by decide) ?_
  refine j_put C h0k fl_FA_13 fw_4_1 rfl rfl rfl d_FA_clear_7 (fun σ2 => ?_)
  exact j_vret C (fun ρ h => leaf_eq h) d_FA_clear_10
theorem c_FA_clear {l : Launch} {D : va_G} {G : GC} {ad : Nat → Nat} {k0 : Nat} (h0k : Is k0 4) (σ : Mem) : Ctr l D G ad ⟨"LineFrames$Fault", "clear", "()V"⟩ prog_5_method_2_code 1 none 0 0 [.ref (ad k0)] σ (.inl none, (f_FA_clear k0 σ)) := ctr_J (cv := cvM) (E := f_FA_clear k0 σ) (by decide +kernel) (Nat.le_of_ble_eq_true rfl) rfl (fun F h C => by subst h; exact w_FA_clear C h0k σ)
/-! LineFrames$StreamReader begin ()V -/
theorem d_SR_begin_0 : decode prog_10_method_2_code 0 = .ok (.aload_n 0, 1) := by decide +kernel
theorem d_SR_begin_1 : decode prog_10_method_2_code 1 = .ok (.getfield 12, 3) := by decide +kernel
theorem d_SR_begin_4 : decode prog_10_method_2_code 4 = .ok (.invokevirtual 85, 3) := by decide +kernel
theorem d_SR_begin_7 : decode prog_10_method_2_code 7 = .ok (.aload_n 0, 1) := by decide +kernel
theorem d_SR_begin_8 : decode prog_10_method_2_code 8 = .ok (.getfield 21, 3) := by decide +kernel
theorem d_SR_begin_11 : decode prog_10_method_2_code 11 = .ok (.invokevirtual 88, 3) := by decide +kernel
theorem d_SR_begin_14 : decode prog_10_method_2_code 14 = .ok (.aload_n 0, 1) := by decide +kernel
theorem d_SR_begin_15 : decode prog_10_method_2_code 15 = .ok (.getfield 43, 3) := by decide +kernel
theorem d_SR_begin_18 : decode prog_10_method_2_code 18 = .ok (.iconst 0, 1) := by decide +kernel
theorem d_SR_begin_19 : decode prog_10_method_2_code 19 = .ok (.invokevirtual 89, 3) := by decide +kernel
theorem d_SR_begin_22 : decode prog_10_method_2_code 22 = .ok (.aload_n 0, 1) := by decide +kernel
theorem d_SR_begin_23 : decode prog_10_method_2_code 23 = .ok (.iconst 0, 1) := by decide +kernel
theorem d_SR_begin_24 : decode prog_10_method_2_code 24 = .ok (.putfield 46, 3) := by decide +kernel
theorem d_SR_begin_27 : decode prog_10_method_2_code 27 = .ok (.aload_n 0, 1) := by decide +kernel
theorem d_SR_begin_28 : decode prog_10_method_2_code 28 = .ok (.iconst 0, 1) := by decide +kernel
theorem d_SR_begin_29 : decode prog_10_method_2_code 29 = .ok (.putfield 50, 3) := by decide +kernel
theorem d_SR_begin_32 : decode prog_10_method_2_code 32 = .ok (.aload_n 0, 1) := by decide +kernel
theorem d_SR_begin_33 : decode prog_10_method_2_code 33 = .ok (.iconst 0, 1) := by decide +kernel
theorem d_SR_begin_34 : decode prog_10_method_2_code 34 = .ok (.putfield 66, 3) := by decide +kernel
theorem d_SR_begin_37 : decode prog_10_method_2_code 37 = .ok (.aload_n 0, 1) := by decide +kernel
theorem d_SR_begin_38 : decode prog_10_method_2_code 38 = .ok (.iconst 0, 1) := by decide +kernel
theorem d_SR_begin_39 : decode prog_10_method_2_code 39 = .ok (.putfield 69, 3) := by decide +kernel
theorem d_SR_begin_42 : decode prog_10_method_2_code 42 = .ok (.return_, 1) := by decide +kernel
def f_SR_begin (k0 : Nat) (σ : Mem) : Option (Mem) :=
  (f_PI_clear (wtg k0 1) σ).bind fun σ2 =>
  lt (f_FA_clear (wtg k0 2) σ2) fun σ3 =>
  (f_RO_fill (wtg k0 5) (0 : Int32) σ3).bind fun σ5 =>
  lt (mput σ5 k0 6 (0 : Int32)) fun σ6 =>
  lt (mput σ6 k0 7 (0 : Int32)) fun σ7 =>
  lt (mput σ7 k0 12 (0 : Int32)) fun σ8 =>
  lt (mput σ8 k0 13 (0 : Int32)) fun σ9 =>
  some (σ9)
set_option maxHeartbeats 4000000 in
set_option maxRecDepth 100000 in
theorem w_SR_begin {F : Fx} (C : Ctx F prog_10_method_2_code 1 "LineFrames$StreamReader" none 2 44) {k0 : Nat} (h0k : Is k0 9) (σ : Mem) : J F 1 (cvO cvM) (f_SR_begin k0 σ) σ 0 [(0, .ref (fad F k0))] [] := by
  unfold f_SR_begin
  refine j_aload_n C d_SR_begin_0 0 rfl ?_
  refine j_getR C h0k fl_SR_12 rfl d_SR_begin_1 ?_
  refine j_bind rfl (fun σ2 e1 => ?_)
  refine j_callVv C mv_SR_85 [] [] (tg_9_1 _ h0k) (c_PI_clear (tg_9_1 _ h0k) σ e1) rfl rfl (by decide) (Nat.le_of_ble_eq_true rfl) d_SR_begin_4 ?_
  refine j_aload_n C d_SR_begin_7 0 rfl ?_
  refine j_getR C h0k fl_SR_21 rfl d_SR_begin_8 ?_
  refine j_callVv C mv_SR_88 [] [] (tg_9_2 _ h0k) (c_FA_clear (tg_9_2 _ h0k) σ2) rfl rfl (by decide) (Nat.le_of_ble_eq_true rfl) d_SR_begin_11 ?_
  refine j_genM (fun σ3 => ?_)
  refine j_aload_n C d_SR_begin_14 0 rfl ?_
  refine j_getR C h0k fl_SR_43 rfl d_SR_begin_15 ?_
  refine j_iconst (v := (0 : Int32)) C d_SR_begin_18 (by decide) ?_
  refine j_bind rfl (fun σ5 e4 => ?_)
  refine j_callVv C mv_SR_89 [.int (0 : Int32)] [] (tg_9_5 _ h0k) (c_RO_fill (tg_9_5 _ h0k) (0 : Int32) σ3 e4) rfl rfl (by decide) (Nat.le_of_ble_eq_true rfl) d_SR_begin_19 ?_
  refine j_aload_n C d_SR_begin_22 0 rfl ?_
  refine j_iconst (v := (0 : Int32)) C d_SR_begin_23 (by decide) ?_
  refine j_put C h0k fl_SR_46 fw_9_6 rfl rfl rfl d_SR_begin_24 (fun σ6 => ?_)
  refine j_aload_n C d_SR_begin_27 0 rfl ?_
  refine j_iconst (v := (0 : Int32)) C d_SR_begin_28 (by decide) ?_
  refine j_put C h0k fl_SR_50 fw_9_7 rfl (nz01 (Or.inl rfl)) rfl d_SR_begin_29 (fun σ7 => ?_)
  refine j_aload_n C d_SR_begin_32 0 rfl ?_
  refine j_iconst (v := (0 : Int32)) C d_SR_begin_33 (by decide) ?_
  refine j_put C h0k fl_SR_66 fw_9_12 rfl rfl rfl d_SR_begin_34 (fun σ8 => ?_)
  refine j_aload_n C d_SR_begin_37 0 rfl ?_
  refine j_iconst (v := (0 : Int32)) C d_SR_begin_38 (by decide) ?_
  refine j_put C h0k fl_SR_69 fw_9_13 rfl rfl rfl d_SR_begin_39 (fun σ9 => ?_)
  exact j_vret C (fun ρ h => leaf_eq h) d_SR_begin_42
theorem c_SR_begin {l : Launch} {D : va_G} {G : GC} {ad : Nat → Nat} {k0 : Nat} (h0k : Is k0 9) (σ : Mem) {q : Mem} (hq : f_SR_begin k0 σ = some q) : Ctr l D G ad ⟨"LineFrames$StreamReader", "begin", "()V"⟩ prog_10_method_2_code 1 none 2 44 [.ref (ad k0)] σ (.inl none, q) := ctr_J (cv := (cvO cvM)) (E := f_SR_begin k0 σ) (by decide +kernel) (Nat.le_of_ble_eq_true rfl) (by rw [hq]; rfl) (fun F h C => by subst h; exact w_SR_begin C h0k σ)
/-! LineFrames$Fault met ()Z -/
theorem d_FA_met_0 : decode prog_5_method_4_code 0 = .ok (.aload_n 0, 1) := by decide +kernel
theorem d_FA_met_1 : decode prog_5_method_4_code 1 = .ok (.getfield 7, 3) := by decide +kernel
theorem d_FA_met_4 : decode prog_5_method_4_code 4 = .ok (.ifCond .eq 7, 3) := by decide +kernel
theorem d_FA_met_7 : decode prog_5_method_4_code 7 = .ok (.iconst 1, 1) := by decide +kernel
theorem d_FA_met_8 : decode prog_5_method_4_code 8 = .ok (.goto 4, 3) := by decide +kernel
theorem d_FA_met_11 : decode prog_5_method_4_code 11 = .ok (.iconst 0, 1) := by decide +kernel
theorem d_FA_met_12 : decode prog_5_method_4_code 12 = .ok (.ireturn, 1) := by decide +kernel
def f_FA_met (k0 : Nat) (σ : Mem) : Int32 :=
  (if (σ k0 0) = 0 then (0 : Int32) else (1 : Int32))
set_option maxHeartbeats 4000000 in
set_option maxRecDepth 100000 in
theorem w_FA_met {F : Fx} (C : Ctx F prog_5_method_4_code 1 "LineFrames$Fault" (some .boolean) 0 0) {k0 : Nat} (h0k : Is k0 4) (σ : Mem) : J F 1 (cvI σ) (f_FA_met k0 σ) σ 0 [(0, .ref (fad F k0))] [] := by
  unfold f_FA_met
  refine j_aload_n C d_FA_met_0 0 rfl ?_
  refine j_getI C h0k fl_FA_7 rfl d_FA_met_1 ?_
  refine d_if_eq (a := (0 : Int32)) (b := (1 : Int32)) (jp := 12) (tgt := 11) C d_FA_met_4 (by decide) (fun c1 k2 => ?_) (fun c1 k2 => ?_) ?_
  · refine j_iconst (v := (0 : Int32)) C d_FA_met_11 (by decide) ?_
    exact k2
  · refine j_iconst (v := (1 : Int32)) C d_FA_met_7 (by decide) ?_
    refine j_goto (tgt := 12) C d_FA_met_8 (by decide) ?_
    exact k2
  exact j_iretz C (fun ρ h => leaf_eq h) (nz01 (ite01 (Or.inl rfl) (Or.inr rfl))) d_FA_met_12
theorem c_FA_met {l : Launch} {D : va_G} {G : GC} {ad : Nat → Nat} {k0 : Nat} (h0k : Is k0 4) (σ : Mem) : Ctr l D G ad ⟨"LineFrames$Fault", "met", "()Z"⟩ prog_5_method_4_code 1 (some .boolean) 0 0 [.ref (ad k0)] σ (.inl (some (.int (f_FA_met k0 σ))), σ) := ctr_J (cv := (cvI σ)) (E := f_FA_met k0 σ) (by decide +kernel) (Nat.le_of_ble_eq_true rfl) rfl (fun F h C => by subst h; exact w_FA_met C h0k σ)
theorem z_FA_met (k0 : Nat) (σ : Mem) : f_FA_met k0 σ = 0 ∨ f_FA_met k0 σ = 1 := by
  unfold f_FA_met
  try simp only [lt]
  repeat' split
  all_goals first | exact Or.inl rfl | exact Or.inr rfl
/-! LineFrames$StreamReader ended ()Z -/
theorem d_SR_ended_0 : decode prog_10_method_3_code 0 = .ok (.aload_n 0, 1) := by decide +kernel
theorem d_SR_ended_1 : decode prog_10_method_3_code 1 = .ok (.getfield 50, 3) := by decide +kernel
theorem d_SR_ended_4 : decode prog_10_method_3_code 4 = .ok (.ifCond .ne 13, 3) := by decide +kernel
theorem d_SR_ended_7 : decode prog_10_method_3_code 7 = .ok (.aload_n 0, 1) := by decide +kernel
theorem d_SR_ended_8 : decode prog_10_method_3_code 8 = .ok (.getfield 21, 3) := by decide +kernel
theorem d_SR_ended_11 : decode prog_10_method_3_code 11 = .ok (.invokevirtual 92, 3) := by decide +kernel
theorem d_SR_ended_14 : decode prog_10_method_3_code 14 = .ok (.ifCond .eq 7, 3) := by decide +kernel
theorem d_SR_ended_17 : decode prog_10_method_3_code 17 = .ok (.iconst 1, 1) := by decide +kernel
theorem d_SR_ended_18 : decode prog_10_method_3_code 18 = .ok (.goto 4, 3) := by decide +kernel
theorem d_SR_ended_21 : decode prog_10_method_3_code 21 = .ok (.iconst 0, 1) := by decide +kernel
theorem d_SR_ended_22 : decode prog_10_method_3_code 22 = .ok (.ireturn, 1) := by decide +kernel
def f_SR_ended (k0 : Nat) (σ : Mem) : Int32 :=
  (if (σ k0 7) = 0 then (if (f_FA_met (wtg k0 2) σ) = 0 then (0 : Int32) else (1 : Int32)) else (1 : Int32))
set_option maxHeartbeats 4000000 in
set_option maxRecDepth 100000 in
theorem w_SR_ended {F : Fx} (C : Ctx F prog_10_method_3_code 1 "LineFrames$StreamReader" (some .boolean) 1 20) {k0 : Nat} (h0k : Is k0 9) (σ : Mem) : J F 1 (cvI σ) (f_SR_ended k0 σ) σ 0 [(0, .ref (fad F k0))] [] := by
  unfold f_SR_ended
  refine j_aload_n C d_SR_ended_0 0 rfl ?_
  refine j_getI C h0k fl_SR_50 rfl d_SR_ended_1 ?_
  refine d_if_ne (a := (if (f_FA_met (wtg k0 2) σ) = 0 then (0 : Int32) else (1 : Int32))) (b := (1 : Int32)) (jp := 22) (tgt := 17) C d_SR_ended_4 (by decide) (fun c7 k8 => ?_) (fun c7 k8 => ?_) ?_
  · refine j_iconst (v := (1 : Int32)) C d_SR_ended_17 (by decide) ?_
    refine j_goto (tgt := 22) C d_SR_ended_18 (by decide) ?_
    exact k8
  · refine j_aload_n C d_SR_ended_7 0 rfl ?_
    refine j_getR C h0k fl_SR_21 rfl d_SR_ended_8 ?_
    refine j_callVi C mv_SR_92 [] [] (tg_9_2 _ h0k) (c_FA_met (tg_9_2 _ h0k) σ) rfl rfl (by decide) (Nat.le_of_ble_eq_true rfl) d_SR_ended_11 ?_
    refine d_if_eq (a := (0 : Int32)) (b := (1 : Int32)) (jp := 22) (tgt := 21) C d_SR_ended_14 (by decide) (fun c9 k10 => ?_) (fun c9 k10 => ?_) ?_
    · refine j_iconst (v := (0 : Int32)) C d_SR_ended_21 (by decide) ?_
      exact k10
    · refine j_iconst (v := (1 : Int32)) C d_SR_ended_17 (by decide) ?_
      refine j_goto (tgt := 22) C d_SR_ended_18 (by decide) ?_
      exact k10
    exact k8
  exact j_iretz C (fun ρ h => leaf_eq h) (nz01 (ite01 (ite01 (Or.inl rfl) (Or.inr rfl)) (Or.inr rfl))) d_SR_ended_22
theorem c_SR_ended {l : Launch} {D : va_G} {G : GC} {ad : Nat → Nat} {k0 : Nat} (h0k : Is k0 9) (σ : Mem) : Ctr l D G ad ⟨"LineFrames$StreamReader", "ended", "()Z"⟩ prog_10_method_3_code 1 (some .boolean) 1 20 [.ref (ad k0)] σ (.inl (some (.int (f_SR_ended k0 σ))), σ) := ctr_J (cv := (cvI σ)) (E := f_SR_ended k0 σ) (by decide +kernel) (Nat.le_of_ble_eq_true rfl) rfl (fun F h C => by subst h; exact w_SR_ended C h0k σ)
theorem z_SR_ended (k0 : Nat) (σ : Mem) : f_SR_ended k0 σ = 0 ∨ f_SR_ended k0 σ = 1 := by
  unfold f_SR_ended
  try simp only [lt]
  repeat' split
  all_goals first | exact Or.inl rfl | exact Or.inr rfl | exact z_FA_met _ _
/-! LineFrames$Bytes size ()I -/
theorem d_BY_size_0 : decode prog_4_method_2_code 0 = .ok (.aload_n 0, 1) := by decide +kernel
theorem d_BY_size_1 : decode prog_4_method_2_code 1 = .ok (.getfield 15, 3) := by decide +kernel
theorem d_BY_size_4 : decode prog_4_method_2_code 4 = .ok (.ireturn, 1) := by decide +kernel
def f_BY_size (k0 : Nat) (σ : Mem) : Int32 :=
  (σ k0 1)
set_option maxHeartbeats 4000000 in
set_option maxRecDepth 100000 in
theorem w_BY_size {F : Fx} (C : Ctx F prog_4_method_2_code 1 "LineFrames$Bytes" (some .int) 0 0) {k0 : Nat} (h0k : Is k0 3) (σ : Mem) : J F 1 (cvI σ) (f_BY_size k0 σ) σ 0 [(0, .ref (fad F k0))] [] := by
  unfold f_BY_size
  refine j_aload_n C d_BY_size_0 0 rfl ?_
  refine j_getI C h0k fl_BY_15 rfl d_BY_size_1 ?_
  exact j_ireti C (fun ρ h => leaf_eq h) d_BY_size_4
theorem c_BY_size {l : Launch} {D : va_G} {G : GC} {ad : Nat → Nat} {k0 : Nat} (h0k : Is k0 3) (σ : Mem) : Ctr l D G ad ⟨"LineFrames$Bytes", "size", "()I"⟩ prog_4_method_2_code 1 (some .int) 0 0 [.ref (ad k0)] σ (.inl (some (.int (f_BY_size k0 σ))), σ) := ctr_J (cv := (cvI σ)) (E := f_BY_size k0 σ) (by decide +kernel) (Nat.le_of_ble_eq_true rfl) rfl (fun F h C => by subst h; exact w_BY_size C h0k σ)
/-! LineFrames$Fault meet (II)V -/
theorem d_FA_meet_0 : decode prog_5_method_3_code 0 = .ok (.aload_n 0, 1) := by decide +kernel
theorem d_FA_meet_1 : decode prog_5_method_3_code 1 = .ok (.getfield 7, 3) := by decide +kernel
theorem d_FA_meet_4 : decode prog_5_method_3_code 4 = .ok (.ifCond .ne 13, 3) := by decide +kernel
theorem d_FA_meet_7 : decode prog_5_method_3_code 7 = .ok (.aload_n 0, 1) := by decide +kernel
theorem d_FA_meet_8 : decode prog_5_method_3_code 8 = .ok (.iload_n 1, 1) := by decide +kernel
theorem d_FA_meet_9 : decode prog_5_method_3_code 9 = .ok (.putfield 7, 3) := by decide +kernel
theorem d_FA_meet_12 : decode prog_5_method_3_code 12 = .ok (.aload_n 0, 1) := by decide +kernel
theorem d_FA_meet_13 : decode prog_5_method_3_code 13 = .ok (.iload_n 2, 1) := by decide +kernel
theorem d_FA_meet_14 : decode prog_5_method_3_code 14 = .ok (.putfield 13, 3) := by decide +kernel
theorem d_FA_meet_17 : decode prog_5_method_3_code 17 = .ok (.return_, 1) := by decide +kernel
def f_FA_meet (k0 : Nat) (x1 : Int32) (x2 : Int32) (σ : Mem) : Mem :=
  if (σ k0 0) = 0 then
  lt (mput σ k0 0 x1) fun σ4 =>
  lt (mput σ4 k0 1 x2) fun σ5 =>
  σ5
  else
  σ
set_option maxHeartbeats 4000000 in
set_option maxRecDepth 100000 in
theorem w_FA_meet {F : Fx} (C : Ctx F prog_5_method_3_code 3 "LineFrames$Fault" none 0 0) {k0 : Nat} (h0k : Is k0 4) (x1 : Int32) (x2 : Int32) (σ : Mem) : J F 3 cvM (f_FA_meet k0 x1 x2 σ) σ 0 [(0, .ref (fad F k0)), (1, .int x1), (2, .int x2)] [] := by
  unfold f_FA_meet
  refine j_aload_n C d_FA_meet_0 0 rfl ?_
  refine j_getI C h0k fl_FA_7 rfl d_FA_meet_1 ?_
  refine j_if_ne (tgt := 17) C d_FA_meet_4 (by decide) (fun c3 => ?_) (fun c3 => ?_)
  · exact j_vret C (fun ρ h => leaf_eq h) d_FA_meet_17
  · refine j_aload_n C d_FA_meet_7 0 rfl ?_
    refine j_iload_n C d_FA_meet_8 1 rfl ?_
    refine j_put C h0k fl_FA_7 fw_4_0 rfl rfl rfl d_FA_meet_9 (fun σ4 => ?_)
    refine j_aload_n C d_FA_meet_12 0 rfl ?_
    refine j_iload_n C d_FA_meet_13 2 rfl ?_
    refine j_put C h0k fl_FA_13 fw_4_1 rfl rfl rfl d_FA_meet_14 (fun σ5 => ?_)
    exact j_vret C (fun ρ h => leaf_eq h) d_FA_meet_17
theorem c_FA_meet {l : Launch} {D : va_G} {G : GC} {ad : Nat → Nat} {k0 : Nat} (h0k : Is k0 4) (x1 : Int32) (x2 : Int32) (σ : Mem) : Ctr l D G ad ⟨"LineFrames$Fault", "meet", "(II)V"⟩ prog_5_method_3_code 3 none 0 0 [.ref (ad k0), .int x1, .int x2] σ (.inl none, (f_FA_meet k0 x1 x2 σ)) := ctr_J (cv := cvM) (E := f_FA_meet k0 x1 x2 σ) (by decide +kernel) (Nat.le_of_ble_eq_true rfl) rfl (fun F h C => by subst h; exact w_FA_meet C h0k x1 x2 σ)
/-! LineFrames$Bytes get (I)I -/
theorem d_BY_get_0 : decode prog_4_method_5_code 0 = .ok (.iload_n 1, 1) := by decide +kernel
theorem d_BY_get_1 : decode prog_4_method_5_code 1 = .ok (.ifCond .lt 29, 3) := by decide +kernel
theorem d_BY_get_4 : decode prog_4_method_5_code 4 = .ok (.iload_n 1, 1) := by decide +kernel
theorem d_BY_get_5 : decode prog_4_method_5_code 5 = .ok (.aload_n 0, 1) := by decide +kernel
theorem d_BY_get_6 : decode prog_4_method_5_code 6 = .ok (.getfield 15, 3) := by decide +kernel
theorem d_BY_get_9 : decode prog_4_method_5_code 9 = .ok (.if_icmp .ge 21, 3) := by decide +kernel
theorem d_BY_get_12 : decode prog_4_method_5_code 12 = .ok (.iload_n 1, 1) := by decide +kernel
theorem d_BY_get_13 : decode prog_4_method_5_code 13 = .ok (.aload_n 0, 1) := by decide +kernel
theorem d_BY_get_14 : decode prog_4_method_5_code 14 = .ok (.getfield 9, 3) := by decide +kernel
theorem d_BY_get_17 : decode prog_4_method_5_code 17 = .ok (.arraylength, 1) := by decide +kernel
theorem d_BY_get_18 : decode prog_4_method_5_code 18 = .ok (.if_icmp .ge 12, 3) := by decide +kernel
theorem d_BY_get_21 : decode prog_4_method_5_code 21 = .ok (.aload_n 0, 1) := by decide +kernel
theorem d_BY_get_22 : decode prog_4_method_5_code 22 = .ok (.getfield 9, 3) := by decide +kernel
theorem d_BY_get_25 : decode prog_4_method_5_code 25 = .ok (.iload_n 1, 1) := by decide +kernel
theorem d_BY_get_26 : decode prog_4_method_5_code 26 = .ok (.iaload, 1) := by decide +kernel
theorem d_BY_get_27 : decode prog_4_method_5_code 27 = .ok (.goto 4, 3) := by decide +kernel
theorem d_BY_get_30 : decode prog_4_method_5_code 30 = .ok (.iconst 0, 1) := by decide +kernel
theorem d_BY_get_31 : decode prog_4_method_5_code 31 = .ok (.ireturn, 1) := by decide +kernel
def f_BY_get (k0 : Nat) (x1 : Int32) (σ : Mem) : Int32 :=
  (if x1 < 0 then (0 : Int32) else (if (σ k0 1) ≤ x1 then (0 : Int32) else (if (nI (wln (wtg k0 0))) ≤ x1 then (0 : Int32) else (σ (wtg k0 0) x1.toNatClampNeg))))
set_option maxHeartbeats 4000000 in
set_option maxRecDepth 100000 in
theorem w_BY_get {F : Fx} (C : Ctx F prog_4_method_5_code 2 "LineFrames$Bytes" (some .int) 0 0) {k0 : Nat} (h0k : Is k0 3) (x1 : Int32) (σ : Mem) : J F 2 (cvI σ) (f_BY_get k0 x1 σ) σ 0 [(0, .ref (fad F k0)), (1, .int x1)] [] := by
  unfold f_BY_get
  refine j_iload_n C d_BY_get_0 1 rfl ?_
  refine d_if_lt (a := (0 : Int32)) (b := (if (σ k0 1) ≤ x1 then (0 : Int32) else (if (nI (wln (wtg k0 0))) ≤ x1 then (0 : Int32) else (σ (wtg k0 0) x1.toNatClampNeg)))) (jp := 31) (tgt := 30) C d_BY_get_1 (by decide) (fun c3 k4 => ?_) (fun c3 k4 => ?_) ?_
  · refine j_iconst (v := (0 : Int32)) C d_BY_get_30 (by decide) ?_
    exact k4
  · refine j_iload_n C d_BY_get_4 1 rfl ?_
    refine j_aload_n C d_BY_get_5 0 rfl ?_
    refine j_getI C h0k fl_BY_15 rfl d_BY_get_6 ?_
    refine d_icmp_ge (a := (0 : Int32)) (b := (if (nI (wln (wtg k0 0))) ≤ x1 then (0 : Int32) else (σ (wtg k0 0) x1.toNatClampNeg))) (jp := 31) (tgt := 30) C d_BY_get_9 (by decide) (fun c5 k6 => ?_) (fun c5 k6 => ?_) ?_
    · refine j_iconst (v := (0 : Int32)) C d_BY_get_30 (by decide) ?_
      exact k6
    · refine j_iload_n C d_BY_get_12 1 rfl ?_
      refine j_aload_n C d_BY_get_13 0 rfl ?_
      refine j_getR C h0k fl_BY_9 rfl d_BY_get_14 ?_
      refine j_alen C (tg_3_0 _ h0k) d_BY_get_17 ?_
      refine d_icmp_ge (a := (0 : Int32)) (b := (σ (wtg k0 0) x1.toNatClampNeg)) (jp := 31) (tgt := 30) C d_BY_get_18 (by decide) (fun c7 k8 => ?_) (fun c7 k8 => ?_) ?_
      · refine j_iconst (v := (0 : Int32)) C d_BY_get_30 (by decide) ?_
        exact k8
      · refine j_aload_n C d_BY_get_21 0 rfl ?_
        refine j_getR C h0k fl_BY_9 rfl d_BY_get_22 ?_
        refine j_iload_n C d_BY_get_25 1 rfl ?_
        refine j_iald C (tg_3_0 _ h0k) (vp_gd c3 c7 (wln_lt _)) d_BY_get_26 ?_
        refine j_goto (tgt := 31) C d_BY_get_27 (by decide) ?_
        exact k8
      exact k6
    exact k4
  exact j_ireti C (fun ρ h => leaf_eq h) d_BY_get_31
theorem c_BY_get {l : Launch} {D : va_G} {G : GC} {ad : Nat → Nat} {k0 : Nat} (h0k : Is k0 3) (x1 : Int32) (σ : Mem) : Ctr l D G ad ⟨"LineFrames$Bytes", "get", "(I)I"⟩ prog_4_method_5_code 2 (some .int) 0 0 [.ref (ad k0), .int x1] σ (.inl (some (.int (f_BY_get k0 x1 σ))), σ) := ctr_J (cv := (cvI σ)) (E := f_BY_get k0 x1 σ) (by decide +kernel) (Nat.le_of_ble_eq_true rfl) rfl (fun F h C => by subst h; exact w_BY_get C h0k x1 σ)
/-! LineFrames$StreamReader isNote (I)Z -/
theorem d_SR_isNote_0 : decode prog_10_method_6_code 0 = .ok (.iload_n 0, 1) := by decide +kernel
theorem d_SR_isNote_1 : decode prog_10_method_6_code 1 = .ok (.sipush 254, 3) := by decide +kernel
theorem d_SR_isNote_4 : decode prog_10_method_6_code 4 = .ok (.if_icmp .eq 17, 3) := by decide +kernel
theorem d_SR_isNote_7 : decode prog_10_method_6_code 7 = .ok (.iload_n 0, 1) := by decide +kernel
theorem d_SR_isNote_8 : decode prog_10_method_6_code 8 = .ok (.sipush 224, 3) := by decide +kernel
theorem d_SR_isNote_11 : decode prog_10_method_6_code 11 = .ok (.if_icmp .lt 14, 3) := by decide +kernel
theorem d_SR_isNote_14 : decode prog_10_method_6_code 14 = .ok (.iload_n 0, 1) := by decide +kernel
theorem d_SR_isNote_15 : decode prog_10_method_6_code 15 = .ok (.sipush 239, 3) := by decide +kernel
theorem d_SR_isNote_18 : decode prog_10_method_6_code 18 = .ok (.if_icmp .gt 7, 3) := by decide +kernel
theorem d_SR_isNote_21 : decode prog_10_method_6_code 21 = .ok (.iconst 1, 1) := by decide +kernel
theorem d_SR_isNote_22 : decode prog_10_method_6_code 22 = .ok (.goto 4, 3) := by decide +kernel
theorem d_SR_isNote_25 : decode prog_10_method_6_code 25 = .ok (.iconst 0, 1) := by decide +kernel
theorem d_SR_isNote_26 : decode prog_10_method_6_code 26 = .ok (.ireturn, 1) := by decide +kernel
def f_SR_isNote (x0 : Int32) (σ : Mem) : Int32 :=
  (if x0 = (254 : Int32) then (1 : Int32) else (if x0 < (224 : Int32) then (0 : Int32) else (if (239 : Int32) < x0 then (0 : Int32) else (1 : Int32))))
set_option maxHeartbeats 4000000 in
set_option maxRecDepth 100000 in
theorem w_SR_isNote {F : Fx} (C : Ctx F prog_10_method_6_code 1 "LineFrames$StreamReader" (some .boolean) 0 0) (x0 : Int32) (σ : Mem) : J F 1 (cvI σ) (f_SR_isNote x0 σ) σ 0 [(0, .int x0)] [] := by
  unfold f_SR_isNote
  refine j_iload_n C d_SR_isNote_0 0 rfl ?_
  refine j_sipush (v := (254 : Int32)) C d_SR_isNote_1 (by decide) ?_
  refine d_icmp_eq (a := (1 : Int32)) (b := (if x0 < (224 : Int32) then (0 : Int32) else (if (239 : Int32) < x0 then (0 : Int32) else (1 : Int32)))) (jp := 26) (tgt := 21) C d_SR_isNote_4 (by decide) (fun c7 k8 => ?_) (fun c7 k8 => ?_) ?_
  · refine j_iconst (v := (1 : Int32)) C d_SR_isNote_21 (by decide) ?_
    refine j_goto (tgt := 26) C d_SR_isNote_22 (by decide) ?_
    exact k8
  · refine j_iload_n C d_SR_isNote_7 0 rfl ?_
    refine j_sipush (v := (224 : Int32)) C d_SR_isNote_8 (by decide) ?_
    refine d_icmp_lt (a := (0 : Int32)) (b := (if (239 : Int32) < x0 then (0 : Int32) else (1 : Int32))) (jp := 26) (tgt := 25) C d_SR_isNote_11 (by decide) (fun c9 k10 => ?_) (fun c9 k10 => ?_) ?_
    · refine j_iconst (v := (0 : Int32)) C d_SR_isNote_25 (by decide) ?_
      exact k10
    · refine j_iload_n C d_SR_isNote_14 0 rfl ?_
      refine j_sipush (v := (239 : Int32)) C d_SR_isNote_15 (by decide) ?_
      refine d_icmp_gt (a := (0 : Int32)) (b := (1 : Int32)) (jp := 26) (tgt := 25) C d_SR_isNote_18 (by decide) (fun c11 k12 => ?_) (fun c11 k12 => ?_) ?_
      · refine j_iconst (v := (0 : Int32)) C d_SR_isNote_25 (by decide) ?_
        exact k12
      · refine j_iconst (v := (1 : Int32)) C d_SR_isNote_21 (by decide) ?_
        refine j_goto (tgt := 26) C d_SR_isNote_22 (by decide) ?_
        exact k12
      exact k10
    exact k8
  exact j_iretz C (fun ρ h => leaf_eq h) (nz01 (ite01 (Or.inr rfl) (ite01 (Or.inl rfl) (ite01 (Or.inl rfl) (Or.inr rfl))))) d_SR_isNote_26
theorem c_SR_isNote {l : Launch} {D : va_G} {G : GC} {ad : Nat → Nat} (x0 : Int32) (σ : Mem) : Ctr l D G ad ⟨"LineFrames$StreamReader", "isNote", "(I)Z"⟩ prog_10_method_6_code 1 (some .boolean) 0 0 [.int x0] σ (.inl (some (.int (f_SR_isNote x0 σ))), σ) := ctr_J (cv := (cvI σ)) (E := f_SR_isNote x0 σ) (by decide +kernel) (Nat.le_of_ble_eq_true rfl) rfl (fun F h C => by subst h; exact w_SR_isNote C x0 σ)
theorem z_SR_isNote (x0 : Int32) (σ : Mem) : f_SR_isNote x0 σ = 0 ∨ f_SR_isNote x0 σ = 1 := by
  unfold f_SR_isNote
  try simp only [lt]
  repeat' split
  all_goals first | exact Or.inl rfl | exact Or.inr rfl
/-! LineFrames$StreamReader isKnown (I)Z -/
theorem d_SR_isKnown_0 : decode prog_10_method_7_code 0 = .ok (.iload_n 0, 1) := by decide +kernel
theorem d_SR_isKnown_1 : decode prog_10_method_7_code 1 = .ok (.invokestatic 133, 3) := by decide +kernel
theorem d_SR_isKnown_4 : decode prog_10_method_7_code 4 = .ok (.ifCond .ne 45, 3) := by decide +kernel
theorem d_SR_isKnown_7 : decode prog_10_method_7_code 7 = .ok (.iload_n 0, 1) := by decide +kernel
theorem d_SR_isKnown_8 : decode prog_10_method_7_code 8 = .ok (.sipush 216, 3) := by decide +kernel
theorem d_SR_isKnown_11 : decode prog_10_method_7_code 11 = .ok (.if_icmp .eq 38, 3) := by decide +kernel
theorem d_SR_isKnown_14 : decode prog_10_method_7_code 14 = .ok (.iload_n 0, 1) := by decide +kernel
theorem d_SR_isKnown_15 : decode prog_10_method_7_code 15 = .ok (.sipush 247, 3) := by decide +kernel
theorem d_SR_isKnown_18 : decode prog_10_method_7_code 18 = .ok (.if_icmp .eq 31, 3) := by decide +kernel
theorem d_SR_isKnown_21 : decode prog_10_method_7_code 21 = .ok (.iload_n 0, 1) := by decide +kernel
theorem d_SR_isKnown_22 : decode prog_10_method_7_code 22 = .ok (.sipush 248, 3) := by decide +kernel
theorem d_SR_isKnown_25 : decode prog_10_method_7_code 25 = .ok (.if_icmp .eq 24, 3) := by decide +kernel
theorem d_SR_isKnown_28 : decode prog_10_method_7_code 28 = .ok (.iload_n 0, 1) := by decide +kernel
theorem d_SR_isKnown_29 : decode prog_10_method_7_code 29 = .ok (.sipush 221, 3) := by decide +kernel
theorem d_SR_isKnown_32 : decode prog_10_method_7_code 32 = .ok (.if_icmp .eq 17, 3) := by decide +kernel
theorem d_SR_isKnown_35 : decode prog_10_method_7_code 35 = .ok (.iload_n 0, 1) := by decide +kernel
theorem d_SR_isKnown_36 : decode prog_10_method_7_code 36 = .ok (.sipush 218, 3) := by decide +kernel
theorem d_SR_isKnown_39 : decode prog_10_method_7_code 39 = .ok (.if_icmp .eq 10, 3) := by decide +kernel
theorem d_SR_isKnown_42 : decode prog_10_method_7_code 42 = .ok (.iload_n 0, 1) := by decide +kernel
theorem d_SR_isKnown_43 : decode prog_10_method_7_code 43 = .ok (.sipush 217, 3) := by decide +kernel
theorem d_SR_isKnown_46 : decode prog_10_method_7_code 46 = .ok (.if_icmp .ne 7, 3) := by decide +kernel
theorem d_SR_isKnown_49 : decode prog_10_method_7_code 49 = .ok (.iconst 1, 1) := by decide +kernel
theorem d_SR_isKnown_50 : decode prog_10_method_7_code 50 = .ok (.goto 4, 3) := by decide +kernel
theorem d_SR_isKnown_53 : decode prog_10_method_7_code 53 = .ok (.iconst 0, 1) := by decide +kernel
theorem d_SR_isKnown_54 : decode prog_10_method_7_code 54 = .ok (.ireturn, 1) := by decide +kernel
def f_SR_isKnown (x0 : Int32) (σ : Mem) : Int32 :=
  (if (f_SR_isNote x0 σ) = 0 then (if x0 = (216 : Int32) then (1 : Int32) else (if x0 = (247 : Int32) then (1 : Int32) else (if x0 = (248 : Int32) then (1 : Int32) else (if x0 = (221 : Int32) then (1 : Int32) else (if x0 = (218 : Int32) then (1 : Int32) else (if x0 = (217 : Int32) then (1 : Int32) else (0 : Int32))))))) else (1 : Int32))
set_option maxHeartbeats 4000000 in
set_option maxRecDepth 100000 in
theorem w_SR_isKnown {F : Fx} (C : Ctx F prog_10_method_7_code 1 "LineFrames$StreamReader" (some .boolean) 1 20) (x0 : Int32) (σ : Mem) : J F 1 (cvI σ) (f_SR_isKnown x0 σ) σ 0 [(0, .int x0)] [] := by
  unfold f_SR_isKnown
  refine j_iload_n C d_SR_isKnown_0 0 rfl ?_
  refine j_callSi C ms_SR_133 [.int x0] [] (c_SR_isNote x0 σ) rfl rfl (by decide) (Nat.le_of_ble_eq_true rfl) d_SR_isKnown_1 ?_
  refine d_if_ne (a := (if x0 = (216 : Int32) then (1 : Int32) else (if x0 = (247 : Int32) then (1 : Int32) else (if x0 = (248 : Int32) then (1 : Int32) else (if x0 = (221 : Int32) then (1 : Int32) else (if x0 = (218 : Int32) then (1 : Int32) else (if x0 = (217 : Int32) then (1 : Int32) else (0 : Int32)))))))) (b := (1 : Int32)) (jp := 54) (tgt := 49) C d_SR_isKnown_4 (by decide) (fun c17 k18 => ?_) (fun c17 k18 => ?_) ?_
  · refine j_iconst (v := (1 : Int32)) C d_SR_isKnown_49 (by decide) ?_
    refine j_goto (tgt := 54) C d_SR_isKnown_50 (by decide) ?_
    exact k18
  · refine j_iload_n C d_SR_isKnown_7 0 rfl ?_
    refine j_sipush (v := (216 : Int32)) C d_SR_isKnown_8 (by decide) ?_
    refine d_icmp_eq (a := (1 : Int32)) (b := (if x0 = (247 : Int32) then (1 : Int32) else (if x0 = (248 : Int32) then (1 : Int32) else (if x0 = (221 : Int32) then (1 : Int32) else (if x0 = (218 : Int32) then (1 : Int32) else (if x0 = (217 : Int32) then (1 : Int32) else (0 : Int32))))))) (jp := 54) (tgt := 49) C d_SR_isKnown_11 (by decide) (fun c19 k20 => ?_) (fun c19 k20 => ?_) ?_
    · refine j_iconst (v := (1 : Int32)) C d_SR_isKnown_49 (by decide) ?_
      refine j_goto (tgt := 54) C d_SR_isKnown_50 (by decide) ?_
      exact k20
    · refine j_iload_n C d_SR_isKnown_14 0 rfl ?_
      refine j_sipush (v := (247 : Int32)) C d_SR_isKnown_15 (by decide) ?_
      refine d_icmp_eq (a := (1 : Int32)) (b := (if x0 = (248 : Int32) then (1 : Int32) else (if x0 = (221 : Int32) then (1 : Int32) else (if x0 = (218 : Int32) then (1 : Int32) else (if x0 = (217 : Int32) then (1 : Int32) else (0 : Int32)))))) (jp := 54) (tgt := 49) C d_SR_isKnown_18 (by decide) (fun c21 k22 => ?_) (fun c21 k22 => ?_) ?_
      · refine j_iconst (v := (1 : Int32)) C d_SR_isKnown_49 (by decide) ?_
        refine j_goto (tgt := 54) C d_SR_isKnown_50 (by decide) ?_
        exact k22
      · refine j_iload_n C d_SR_isKnown_21 0 rfl ?_
        refine j_sipush (v := (248 : Int32)) C d_SR_isKnown_22 (by decide) ?_
        refine d_icmp_eq (a := (1 : Int32)) (b := (if x0 = (221 : Int32) then (1 : Int32) else (if x0 = (218 : Int32) then (1 : Int32) else (if x0 = (217 : Int32) then (1 : Int32) else (0 : Int32))))) (jp := 54) (tgt := 49) C d_SR_isKnown_25 (by decide) (fun c23 k24 => ?_) (fun c23 k24 => ?_) ?_
        · refine j_iconst (v := (1 : Int32)) C d_SR_isKnown_49 (by decide) ?_
          refine j_goto (tgt := 54) C d_SR_isKnown_50 (by decide) ?_
          exact k24
        · refine j_iload_n C d_SR_isKnown_28 0 rfl ?_
          refine j_sipush (v := (221 : Int32)) C d_SR_isKnown_29 (by decide) ?_
          refine d_icmp_eq (a := (1 : Int32)) (b := (if x0 = (218 : Int32) then (1 : Int32) else (if x0 = (217 : Int32) then (1 : Int32) else (0 : Int32)))) (jp := 54) (tgt := 49) C d_SR_isKnown_32 (by decide) (fun c25 k26 => ?_) (fun c25 k26 => ?_) ?_
          · refine j_iconst (v := (1 : Int32)) C d_SR_isKnown_49 (by decide) ?_
            refine j_goto (tgt := 54) C d_SR_isKnown_50 (by decide) ?_
            exact k26
          · refine j_iload_n C d_SR_isKnown_35 0 rfl ?_
            refine j_sipush (v := (218 : Int32)) C d_SR_isKnown_36 (by decide) ?_
            refine d_icmp_eq (a := (1 : Int32)) (b := (if x0 = (217 : Int32) then (1 : Int32) else (0 : Int32))) (jp := 54) (tgt := 49) C d_SR_isKnown_39 (by decide) (fun c27 k28 => ?_) (fun c27 k28 => ?_) ?_
            · refine j_iconst (v := (1 : Int32)) C d_SR_isKnown_49 (by decide) ?_
              refine j_goto (tgt := 54) C d_SR_isKnown_50 (by decide) ?_
              exact k28
            · refine j_iload_n C d_SR_isKnown_42 0 rfl ?_
              refine j_sipush (v := (217 : Int32)) C d_SR_isKnown_43 (by decide) ?_
              refine d_icmp_ne (a := (1 : Int32)) (b := (0 : Int32)) (jp := 54) (tgt := 53) C d_SR_isKnown_46 (by decide) (fun c29 k30 => ?_) (fun c29 k30 => ?_) ?_
              · refine j_iconst (v := (0 : Int32)) C d_SR_isKnown_53 (by decide) ?_
                exact k30
              · refine j_iconst (v := (1 : Int32)) C d_SR_isKnown_49 (by decide) ?_
                refine j_goto (tgt := 54) C d_SR_isKnown_50 (by decide) ?_
                exact k30
              exact k28
            exact k26
          exact k24
        exact k22
      exact k20
    exact k18
  exact j_iretz C (fun ρ h => leaf_eq h) (nz01 (ite01 (ite01 (Or.inr rfl) (ite01 (Or.inr rfl) (ite01 (Or.inr rfl) (ite01 (Or.inr rfl) (ite01 (Or.inr rfl) (ite01 (Or.inr rfl) (Or.inl rfl))))))) (Or.inr rfl))) d_SR_isKnown_54
theorem c_SR_isKnown {l : Launch} {D : va_G} {G : GC} {ad : Nat → Nat} (x0 : Int32) (σ : Mem) : Ctr l D G ad ⟨"LineFrames$StreamReader", "isKnown", "(I)Z"⟩ prog_10_method_7_code 1 (some .boolean) 1 20 [.int x0] σ (.inl (some (.int (f_SR_isKnown x0 σ))), σ) := ctr_J (cv := (cvI σ)) (E := f_SR_isKnown x0 σ) (by decide +kernel) (Nat.le_of_ble_eq_true rfl) rfl (fun F h C => by subst h; exact w_SR_isKnown C x0 σ)
theorem z_SR_isKnown (x0 : Int32) (σ : Mem) : f_SR_isKnown x0 σ = 0 ∨ f_SR_isKnown x0 σ = 1 := by
  unfold f_SR_isKnown
  try simp only [lt]
  repeat' split
  all_goals first | exact Or.inl rfl | exact Or.inr rfl | exact z_SR_isNote _ _
/-! LineFrames$Row get (I)I -/
theorem d_RO_get_0 : decode prog_9_method_2_code 0 = .ok (.iload_n 1, 1) := by decide +kernel
theorem d_RO_get_1 : decode prog_9_method_2_code 1 = .ok (.ifCond .lt 21, 3) := by decide +kernel
theorem d_RO_get_4 : decode prog_9_method_2_code 4 = .ok (.iload_n 1, 1) := by decide +kernel
theorem d_RO_get_5 : decode prog_9_method_2_code 5 = .ok (.aload_n 0, 1) := by decide +kernel
theorem d_RO_get_6 : decode prog_9_method_2_code 6 = .ok (.getfield 13, 3) := by decide +kernel
theorem d_RO_get_9 : decode prog_9_method_2_code 9 = .ok (.arraylength, 1) := by decide +kernel
theorem d_RO_get_10 : decode prog_9_method_2_code 10 = .ok (.if_icmp .ge 12, 3) := by decide +kernel
theorem d_RO_get_13 : decode prog_9_method_2_code 13 = .ok (.aload_n 0, 1) := by decide +kernel
theorem d_RO_get_14 : decode prog_9_method_2_code 14 = .ok (.getfield 13, 3) := by decide +kernel
theorem d_RO_get_17 : decode prog_9_method_2_code 17 = .ok (.iload_n 1, 1) := by decide +kernel
theorem d_RO_get_18 : decode prog_9_method_2_code 18 = .ok (.iaload, 1) := by decide +kernel
theorem d_RO_get_19 : decode prog_9_method_2_code 19 = .ok (.goto 4, 3) := by decide +kernel
theorem d_RO_get_22 : decode prog_9_method_2_code 22 = .ok (.iconst 0, 1) := by decide +kernel
theorem d_RO_get_23 : decode prog_9_method_2_code 23 = .ok (.ireturn, 1) := by decide +kernel
def f_RO_get (k0 : Nat) (x1 : Int32) (σ : Mem) : Int32 :=
  (if x1 < 0 then (0 : Int32) else (if (nI (wln (wtg k0 0))) ≤ x1 then (0 : Int32) else (σ (wtg k0 0) x1.toNatClampNeg)))
set_option maxHeartbeats 4000000 in
set_option maxRecDepth 100000 in
theorem w_RO_get {F : Fx} (C : Ctx F prog_9_method_2_code 2 "LineFrames$Row" (some .int) 0 0) {k0 : Nat} (h0k : Is k0 8) (x1 : Int32) (σ : Mem) : J F 2 (cvI σ) (f_RO_get k0 x1 σ) σ 0 [(0, .ref (fad F k0)), (1, .int x1)] [] := by
  unfold f_RO_get
  refine j_iload_n C d_RO_get_0 1 rfl ?_
  refine d_if_lt (a := (0 : Int32)) (b := (if (nI (wln (wtg k0 0))) ≤ x1 then (0 : Int32) else (σ (wtg k0 0) x1.toNatClampNeg))) (jp := 23) (tgt := 22) C d_RO_get_1 (by decide) (fun c3 k4 => ?_) (fun c3 k4 => ?_) ?_
  · refine j_iconst (v := (0 : Int32)) C d_RO_get_22 (by decide) ?_
    exact k4
  · refine j_iload_n C d_RO_get_4 1 rfl ?_
    refine j_aload_n C d_RO_get_5 0 rfl ?_
    refine j_getR C h0k fl_RO_13 rfl d_RO_get_6 ?_
    refine j_alen C (tg_8_0 _ h0k) d_RO_get_9 ?_
    refine d_icmp_ge (a := (0 : Int32)) (b := (σ (wtg k0 0) x1.toNatClampNeg)) (jp := 23) (tgt := 22) C d_RO_get_10 (by decide) (fun c5 k6 => ?_) (fun c5 k6 => ?_) ?_
    · refine j_iconst (v := (0 : Int32)) C d_RO_get_22 (by decide) ?_
      exact k6
    · refine j_aload_n C d_RO_get_13 0 rfl ?_
      refine j_getR C h0k fl_RO_13 rfl d_RO_get_14 ?_
      refine j_iload_n C d_RO_get_17 1 rfl ?_
      refine j_iald C (tg_8_0 _ h0k) (vp_gd c3 c5 (wln_lt _)) d_RO_get_18 ?_
      refine j_goto (tgt := 23) C d_RO_get_19 (by decide) ?_
      exact k6
    exact k4
  exact j_ireti C (fun ρ h => leaf_eq h) d_RO_get_23
theorem c_RO_get {l : Launch} {D : va_G} {G : GC} {ad : Nat → Nat} {k0 : Nat} (h0k : Is k0 8) (x1 : Int32) (σ : Mem) : Ctr l D G ad ⟨"LineFrames$Row", "get", "(I)I"⟩ prog_9_method_2_code 2 (some .int) 0 0 [.ref (ad k0), .int x1] σ (.inl (some (.int (f_RO_get k0 x1 σ))), σ) := ctr_J (cv := (cvI σ)) (E := f_RO_get k0 x1 σ) (by decide +kernel) (Nat.le_of_ble_eq_true rfl) rfl (fun F h C => by subst h; exact w_RO_get C h0k x1 σ)
/-! LineFrames$StreamReader allScanned ()Z -/
theorem d_SR_allScanned_0 : decode prog_10_method_9_code 0 = .ok (.iconst 0, 1) := by decide +kernel
theorem d_SR_allScanned_1 : decode prog_10_method_9_code 1 = .ok (.istore_n 1, 1) := by decide +kernel
theorem d_SR_allScanned_2 : decode prog_10_method_9_code 2 = .ok (.iload_n 1, 1) := by decide +kernel
theorem d_SR_allScanned_3 : decode prog_10_method_9_code 3 = .ok (.aload_n 0, 1) := by decide +kernel
theorem d_SR_allScanned_4 : decode prog_10_method_9_code 4 = .ok (.getfield 12, 3) := by decide +kernel
theorem d_SR_allScanned_7 : decode prog_10_method_9_code 7 = .ok (.getfield 136, 3) := by decide +kernel
theorem d_SR_allScanned_10 : decode prog_10_method_9_code 10 = .ok (.if_icmp .ge 22, 3) := by decide +kernel
theorem d_SR_allScanned_13 : decode prog_10_method_9_code 13 = .ok (.aload_n 0, 1) := by decide +kernel
theorem d_SR_allScanned_14 : decode prog_10_method_9_code 14 = .ok (.getfield 43, 3) := by decide +kernel
theorem d_SR_allScanned_17 : decode prog_10_method_9_code 17 = .ok (.iload_n 1, 1) := by decide +kernel
theorem d_SR_allScanned_18 : decode prog_10_method_9_code 18 = .ok (.invokevirtual 142, 3) := by decide +kernel
theorem d_SR_allScanned_21 : decode prog_10_method_9_code 21 = .ok (.ifCond .ne 5, 3) := by decide +kernel
theorem d_SR_allScanned_24 : decode prog_10_method_9_code 24 = .ok (.iconst 0, 1) := by decide +kernel
theorem d_SR_allScanned_25 : decode prog_10_method_9_code 25 = .ok (.ireturn, 1) := by decide +kernel
theorem d_SR_allScanned_26 : decode prog_10_method_9_code 26 = .ok (.iinc 1 1, 3) := by decide +kernel
theorem d_SR_allScanned_29 : decode prog_10_method_9_code 29 = .ok (.goto (-27), 3) := by decide +kernel
theorem d_SR_allScanned_32 : decode prog_10_method_9_code 32 = .ok (.iconst 1, 1) := by decide +kernel
theorem d_SR_allScanned_33 : decode prog_10_method_9_code 33 = .ok (.ireturn, 1) := by decide +kernel
def L_SR_allScanned_2 (r0 : Nat) (σ : Mem) : Nat → Int32 →  Option ((Int32) ⊕ Int32)
  | 0, _ => none
  | n + 1, a1 =>
  if (σ (wtg r0 1) 8) ≤ a1 then
  some (.inl a1)
  else
  if (f_RO_get (wtg r0 5) a1 σ) = 0 then
  some (.inr (0 : Int32))
  else
  L_SR_allScanned_2 r0 σ n (a1 + (1 : Int32))
def f_SR_allScanned (k0 : Nat) (σ : Mem) : Option (Int32) :=
  (L_SR_allScanned_2 k0 σ 9999 (0 : Int32)).bind fun q3_ => ecase q3_ (fun q3 =>
  some (1 : Int32)) (fun e4 => some e4)
set_option maxHeartbeats 4000000 in
set_option maxRecDepth 100000 in
theorem wL_SR_allScanned_2 {F : Fx} (C : Ctx F prog_10_method_9_code 2 "LineFrames$StreamReader" (some .boolean) 1 21) {cv : Option ((Int32) ⊕ Int32) → Option Rs} (h0 : cv none = none) (r0 : Nat) (hr0 : Is r0 9) (σ : Mem) (hR : ∀ (e : Int32) (ρ : Rs), cv (some (.inr e)) = some ρ → ρ = (.inl (some (.int e)), σ)) (hex : ∀ q : Int32, J F 2 cv (some (.inl q)) σ 32 [(0, .ref (fad F r0)), (1, .int q)] []) : ∀ (n : Nat) (a1 : Int32), J F 2 cv (L_SR_allScanned_2 r0 σ n a1) σ 2 [(0, .ref (fad F r0)), (1, .int a1)] [] := by
  intro n
  induction n with
  | zero => intro a1 hE; rw [L_SR_allScanned_2, h0] at hE; cases hE
  | succ n ih =>
    intro a1
    rw [L_SR_allScanned_2]
    refine j_iload_n C d_SR_allScanned_2 1 rfl ?_
    refine j_aload_n C d_SR_allScanned_3 0 rfl ?_
    refine j_getR C hr0 fl_SR_12 rfl d_SR_allScanned_4 ?_
    refine j_getI C (tg_9_1 _ hr0) fl_SR_136 rfl d_SR_allScanned_7 ?_
    refine j_icmp_ge (tgt := 32) C d_SR_allScanned_10 (by decide) (fun c1 => ?_) (fun c1 => ?_)
    · exact hex a1
    · refine j_aload_n C d_SR_allScanned_13 0 rfl ?_
      refine j_getR C hr0 fl_SR_43 rfl d_SR_allScanned_14 ?_
      refine j_iload_n C d_SR_allScanned_17 1 rfl ?_
      refine j_callVi C mv_SR_142 [.int a1] [] (tg_9_5 _ hr0) (c_RO_get (tg_9_5 _ hr0) a1 σ) rfl rfl (by decide) (Nat.le_of_ble_eq_true rfl) d_SR_allScanned_18 ?_
      refine j_if_ne (tgt := 26) C d_SR_allScanned_21 (by decide) (fun c2 => ?_) (fun c2 => ?_)
      · refine j_iinc (v := (a1 + (1 : Int32))) (lv9 := [(0, .ref (fad F r0)), (1, .int (a1 + (1 : Int32)))]) C d_SR_allScanned_26 1 rfl rfl rfl rfl (by decide) ?_
        refine j_goto (tgt := 2) C d_SR_allScanned_29 (by decide) ?_
        exact ih (a1 + (1 : Int32))
      · refine j_iconst (v := (0 : Int32)) C d_SR_allScanned_24 (by decide) ?_
        exact j_iretz C (hR (0 : Int32)) (nz01 (Or.inl rfl)) d_SR_allScanned_25
set_option maxHeartbeats 4000000 in
set_option maxRecDepth 100000 in
theorem w_SR_allScanned {F : Fx} (C : Ctx F prog_10_method_9_code 2 "LineFrames$StreamReader" (some .boolean) 1 21) {k0 : Nat} (h0k : Is k0 9) (σ : Mem) : J F 2 (cvO (cvI σ)) (f_SR_allScanned k0 σ) σ 0 [(0, .ref (fad F k0))] [] := by
  unfold f_SR_allScanned
  refine j_iconst (v := (0 : Int32)) C d_SR_allScanned_0 (by decide) ?_
  refine j_istore_n (lv9 := [(0, .ref (fad F k0)), (1, .int (0 : Int32))]) C d_SR_allScanned_1 rfl rfl (by decide) ?_
  refine j_loop (wL_SR_allScanned_2 C rfl k0 h0k σ (fun e4 ρ h => leaf_eq h) (fun q3 => j_some ?_) 9999 (0 : Int32))
  refine j_ecl ?_
  refine j_iconst (v := (1 : Int32)) C d_SR_allScanned_32 (by decide) ?_
  exact j_iretz C (fun ρ h => leaf_eq h) (nz01 (Or.inr rfl)) d_SR_allScanned_33
theorem c_SR_allScanned {l : Launch} {D : va_G} {G : GC} {ad : Nat → Nat} {k0 : Nat} (h0k : Is k0 9) (σ : Mem) {q : Int32} (hq : f_SR_allScanned k0 σ = some q) : Ctr l D G ad ⟨"LineFrames$StreamReader", "allScanned", "()Z"⟩ prog_10_method_9_code 2 (some .boolean) 1 21 [.ref (ad k0)] σ (.inl (some (.int q)), σ) := ctr_J (cv := (cvO (cvI σ))) (E := f_SR_allScanned k0 σ) (by decide +kernel) (Nat.le_of_ble_eq_true rfl) (by rw [hq]; rfl) (fun F h C => by subst h; exact w_SR_allScanned C h0k σ)
/-! LineFrames$StreamReader isTooSoonOrLate (I)Z -/
theorem d_SR_isTooSoonOrLate_0 : decode prog_10_method_8_code 0 = .ok (.aload_n 0, 1) := by decide +kernel
theorem d_SR_isTooSoonOrLate_1 : decode prog_10_method_8_code 1 = .ok (.getfield 12, 3) := by decide +kernel
theorem d_SR_isTooSoonOrLate_4 : decode prog_10_method_8_code 4 = .ok (.getfield 136, 3) := by decide +kernel
theorem d_SR_isTooSoonOrLate_7 : decode prog_10_method_8_code 7 = .ok (.ifCond .eq 7, 3) := by decide +kernel
theorem d_SR_isTooSoonOrLate_10 : decode prog_10_method_8_code 10 = .ok (.iconst 1, 1) := by decide +kernel
theorem d_SR_isTooSoonOrLate_11 : decode prog_10_method_8_code 11 = .ok (.goto 4, 3) := by decide +kernel
theorem d_SR_isTooSoonOrLate_14 : decode prog_10_method_8_code 14 = .ok (.iconst 0, 1) := by decide +kernel
theorem d_SR_isTooSoonOrLate_15 : decode prog_10_method_8_code 15 = .ok (.istore_n 2, 1) := by decide +kernel
theorem d_SR_isTooSoonOrLate_16 : decode prog_10_method_8_code 16 = .ok (.iload_n 1, 1) := by decide +kernel
theorem d_SR_isTooSoonOrLate_17 : decode prog_10_method_8_code 17 = .ok (.lookupswitch 97 #[(217, 80), (218, 53), (221, 63), (247, 51), (248, 63)], 51) := by decide +kernel
theorem d_SR_isTooSoonOrLate_68 : decode prog_10_method_8_code 68 = .ok (.iload_n 2, 1) := by decide +kernel
theorem d_SR_isTooSoonOrLate_69 : decode prog_10_method_8_code 69 = .ok (.ireturn, 1) := by decide +kernel
theorem d_SR_isTooSoonOrLate_70 : decode prog_10_method_8_code 70 = .ok (.iload_n 2, 1) := by decide +kernel
theorem d_SR_isTooSoonOrLate_71 : decode prog_10_method_8_code 71 = .ok (.ifCond .ne 7, 3) := by decide +kernel
theorem d_SR_isTooSoonOrLate_74 : decode prog_10_method_8_code 74 = .ok (.iconst 1, 1) := by decide +kernel
theorem d_SR_isTooSoonOrLate_75 : decode prog_10_method_8_code 75 = .ok (.goto 4, 3) := by decide +kernel
theorem d_SR_isTooSoonOrLate_78 : decode prog_10_method_8_code 78 = .ok (.iconst 0, 1) := by decide +kernel
theorem d_SR_isTooSoonOrLate_79 : decode prog_10_method_8_code 79 = .ok (.ireturn, 1) := by decide +kernel
theorem d_SR_isTooSoonOrLate_80 : decode prog_10_method_8_code 80 = .ok (.iload_n 2, 1) := by decide +kernel
theorem d_SR_isTooSoonOrLate_81 : decode prog_10_method_8_code 81 = .ok (.ifCond .eq 10, 3) := by decide +kernel
theorem d_SR_isTooSoonOrLate_84 : decode prog_10_method_8_code 84 = .ok (.aload_n 0, 1) := by decide +kernel
theorem d_SR_isTooSoonOrLate_85 : decode prog_10_method_8_code 85 = .ok (.getfield 69, 3) := by decide +kernel
theorem d_SR_isTooSoonOrLate_88 : decode prog_10_method_8_code 88 = .ok (.ifCond .eq 7, 3) := by decide +kernel
theorem d_SR_isTooSoonOrLate_91 : decode prog_10_method_8_code 91 = .ok (.iconst 1, 1) := by decide +kernel
theorem d_SR_isTooSoonOrLate_92 : decode prog_10_method_8_code 92 = .ok (.goto 4, 3) := by decide +kernel
theorem d_SR_isTooSoonOrLate_95 : decode prog_10_method_8_code 95 = .ok (.iconst 0, 1) := by decide +kernel
theorem d_SR_isTooSoonOrLate_96 : decode prog_10_method_8_code 96 = .ok (.ireturn, 1) := by decide +kernel
theorem d_SR_isTooSoonOrLate_97 : decode prog_10_method_8_code 97 = .ok (.iload_n 2, 1) := by decide +kernel
theorem d_SR_isTooSoonOrLate_98 : decode prog_10_method_8_code 98 = .ok (.ifCond .eq 10, 3) := by decide +kernel
theorem d_SR_isTooSoonOrLate_101 : decode prog_10_method_8_code 101 = .ok (.aload_n 0, 1) := by decide +kernel
theorem d_SR_isTooSoonOrLate_102 : decode prog_10_method_8_code 102 = .ok (.invokevirtual 139, 3) := by decide +kernel
theorem d_SR_isTooSoonOrLate_105 : decode prog_10_method_8_code 105 = .ok (.ifCond .ne 7, 3) := by decide +kernel
theorem d_SR_isTooSoonOrLate_108 : decode prog_10_method_8_code 108 = .ok (.iconst 1, 1) := by decide +kernel
theorem d_SR_isTooSoonOrLate_109 : decode prog_10_method_8_code 109 = .ok (.goto 4, 3) := by decide +kernel
theorem d_SR_isTooSoonOrLate_112 : decode prog_10_method_8_code 112 = .ok (.iconst 0, 1) := by decide +kernel
theorem d_SR_isTooSoonOrLate_113 : decode prog_10_method_8_code 113 = .ok (.ireturn, 1) := by decide +kernel
theorem d_SR_isTooSoonOrLate_114 : decode prog_10_method_8_code 114 = .ok (.iconst 0, 1) := by decide +kernel
theorem d_SR_isTooSoonOrLate_115 : decode prog_10_method_8_code 115 = .ok (.ireturn, 1) := by decide +kernel
def f_SR_isTooSoonOrLate (k0 : Nat) (x1 : Int32) (σ : Mem) : Option (Int32) :=
  lt (if (σ (wtg k0 1) 8) = 0 then (0 : Int32) else (1 : Int32)) fun v3 =>
  if x1 = 217 then
  if v3 = 0 then
  some (1 : Int32)
  else
  (f_SR_allScanned k0 σ).bind fun r17 =>
  some (if r17 = 0 then (1 : Int32) else (0 : Int32))
  else
  if x1 = 218 then
  some (if v3 = 0 then (1 : Int32) else (0 : Int32))
  else
  if x1 = 221 then
  some (if v3 = 0 then (1 : Int32) else (if (σ k0 13) = 0 then (0 : Int32) else (1 : Int32)))
  else
  if x1 = 247 then
  some v3
  else
  if x1 = 248 then
  some (if v3 = 0 then (1 : Int32) else (if (σ k0 13) = 0 then (0 : Int32) else (1 : Int32)))
  else
  some (0 : Int32)
set_option maxHeartbeats 4000000 in
set_option maxRecDepth 100000 in
theorem w_SR_isTooSoonOrLate {F : Fx} (C : Ctx F prog_10_method_8_code 3 "LineFrames$StreamReader" (some .boolean) 2 42) {k0 : Nat} (h0k : Is k0 9) (x1 : Int32) (σ : Mem) : J F 3 (cvO (cvI σ)) (f_SR_isTooSoonOrLate k0 x1 σ) σ 0 [(0, .ref (fad F k0)), (1, .int x1)] [] := by
  unfold f_SR_isTooSoonOrLate
  refine j_aload_n C d_SR_isTooSoonOrLate_0 0 rfl ?_
  refine j_getR C h0k fl_SR_12 rfl d_SR_isTooSoonOrLate_1 ?_
  refine j_getI C (tg_9_1 _ h0k) fl_SR_136 rfl d_SR_isTooSoonOrLate_4 ?_
  refine d_if_eq (a := (0 : Int32)) (b := (1 : Int32)) (jp := 15) (tgt := 14) C d_SR_isTooSoonOrLate_7 (by decide) (fun c1 k2 => ?_) (fun c1 k2 => ?_) ?_
  · refine j_iconst (v := (0 : Int32)) C d_SR_isTooSoonOrLate_14 (by decide) ?_
    exact k2
  · refine j_iconst (v := (1 : Int32)) C d_SR_isTooSoonOrLate_10 (by decide) ?_
    refine j_goto (tgt := 15) C d_SR_isTooSoonOrLate_11 (by decide) ?_
    exact k2
  refine j_nm (fun v3 v3_e => ?_)
  refine j_istore_n (lv9 := [(0, .ref (fad F k0)), (1, .int x1), (2, .int v3)]) C d_SR_isTooSoonOrLate_15 rfl rfl (by decide) ?_
  refine j_iload_n C d_SR_isTooSoonOrLate_16 1 rfl ?_
  refine j_case (fun c4 => ?_) (fun c4 => ?_)
  · refine j_look (off := 80) (tgt := 97) C d_SR_isTooSoonOrLate_17 (by decide) (by rw [c4] <;> decide) (by decide) ?_
    refine j_iload_n C d_SR_isTooSoonOrLate_97 2 rfl ?_
    refine j_if_eq (tgt := 108) C d_SR_isTooSoonOrLate_98 (by decide) (fun c15 => ?_) (fun c15 => ?_)
    · refine j_iconst (v := (1 : Int32)) C d_SR_isTooSoonOrLate_108 (by decide) ?_
      refine j_goto (tgt := 113) C d_SR_isTooSoonOrLate_109 (by decide) ?_
      exact j_iretz C (fun ρ h => leaf_eq h) (nz01 (Or.inr rfl)) d_SR_isTooSoonOrLate_113
    · refine j_aload_n C d_SR_isTooSoonOrLate_101 0 rfl ?_
      refine j_bind rfl (fun r17 e16 => ?_)
      refine j_callVi C mv_SR_139 [] [] h0k (c_SR_allScanned h0k σ e16) rfl rfl (by decide) (Nat.le_of_ble_eq_true rfl) d_SR_isTooSoonOrLate_102 ?_
      refine d_if_ne (a := (1 : Int32)) (b := (0 : Int32)) (jp := 113) (tgt := 112) C d_SR_isTooSoonOrLate_105 (by decide) (fun c18 k19 => ?_) (fun c18 k19 => ?_) ?_
      · refine j_iconst (v := (0 : Int32)) C d_SR_isTooSoonOrLate_112 (by decide) ?_
        exact k19
      · refine j_iconst (v := (1 : Int32)) C d_SR_isTooSoonOrLate_108 (by decide) ?_
        refine j_goto (tgt := 113) C d_SR_isTooSoonOrLate_109 (by decide) ?_
        exact k19
      exact j_iretz C (fun ρ h => leaf_eq h) (nz01 (ite01 (Or.inr rfl) (Or.inl rfl))) d_SR_isTooSoonOrLate_113
  · refine j_case (fun c5 => ?_) (fun c5 => ?_)
    · refine j_look (off := 53) (tgt := 70) C d_SR_isTooSoonOrLate_17 (by decide) (by rw [c5] <;> decide) (by decide) ?_
      refine j_iload_n C d_SR_isTooSoonOrLate_70 2 rfl ?_
      refine d_if_ne (a := (1 : Int32)) (b := (0 : Int32)) (jp := 79) (tgt := 78) C d_SR_isTooSoonOrLate_71 (by decide) (fun c20 k21 => ?_) (fun c20 k21 => ?_) ?_
      · refine j_iconst (v := (0 : Int32)) C d_SR_isTooSoonOrLate_78 (by decide) ?_
        exact k21
      · refine j_iconst (v := (1 : Int32)) C d_SR_isTooSoonOrLate_74 (by decide) ?_
        refine j_goto (tgt := 79) C d_SR_isTooSoonOrLate_75 (by decide) ?_
        exact k21
      exact j_iretz C (fun ρ h => leaf_eq h) (nz01 (ite01 (Or.inr rfl) (Or.inl rfl))) d_SR_isTooSoonOrLate_79
    · refine j_case (fun c6 => ?_) (fun c6 => ?_)
      · refine j_look (off := 63) (tgt := 80) C d_SR_isTooSoonOrLate_17 (by decide) (by rw [c6] <;> decide) (by decide) ?_
        refine j_iload_n C d_SR_isTooSoonOrLate_80 2 rfl ?_
        refine d_if_eq (a := (1 : Int32)) (b := (if (σ k0 13) = 0 then (0 : Int32) else (1 : Int32))) (jp := 96) (tgt := 91) C d_SR_isTooSoonOrLate_81 (by decide) (fun c28 k29 => ?_) (fun c28 k29 => ?_) ?_
        · refine j_iconst (v := (1 : Int32)) C d_SR_isTooSoonOrLate_91 (by decide) ?_
          refine j_goto (tgt := 96) C d_SR_isTooSoonOrLate_92 (by decide) ?_
          exact k29
        · refine j_aload_n C d_SR_isTooSoonOrLate_84 0 rfl ?_
          refine j_getI C h0k fl_SR_69 rfl d_SR_isTooSoonOrLate_85 ?_
          refine d_if_eq (a := (0 : Int32)) (b := (1 : Int32)) (jp := 96) (tgt := 95) C d_SR_isTooSoonOrLate_88 (by decide) (fun c30 k31 => ?_) (fun c30 k31 => ?_) ?_
          · refine j_iconst (v := (0 : Int32)) C d_SR_isTooSoonOrLate_95 (by decide) ?_
            exact k31
          · refine j_iconst (v := (1 : Int32)) C d_SR_isTooSoonOrLate_91 (by decide) ?_
            refine j_goto (tgt := 96) C d_SR_isTooSoonOrLate_92 (by decide) ?_
            exact k31
          exact k29
        exact j_iretz C (fun ρ h => leaf_eq h) (nz01 (ite01 (Or.inr rfl) (ite01 (Or.inl rfl) (Or.inr rfl)))) d_SR_isTooSoonOrLate_96
      · refine j_case (fun c7 => ?_) (fun c7 => ?_)
        · refine j_look (off := 51) (tgt := 68) C d_SR_isTooSoonOrLate_17 (by decide) (by rw [c7] <;> decide) (by decide) ?_
          refine j_iload_n C d_SR_isTooSoonOrLate_68 2 rfl ?_
          exact j_iretz C (fun ρ h => leaf_eq h) (nz01 (eq01 v3_e (ite01 (Or.inl rfl) (Or.inr rfl)))) d_SR_isTooSoonOrLate_69
        · refine j_case (fun c8 => ?_) (fun c8 => ?_)
          · refine j_look (off := 63) (tgt := 80) C d_SR_isTooSoonOrLate_17 (by decide) (by rw [c8] <;> decide) (by decide) ?_
            refine j_iload_n C d_SR_isTooSoonOrLate_80 2 rfl ?_
            refine d_if_eq (a := (1 : Int32)) (b := (if (σ k0 13) = 0 then (0 : Int32) else (1 : Int32))) (jp := 96) (tgt := 91) C d_SR_isTooSoonOrLate_81 (by decide) (fun c38 k39 => ?_) (fun c38 k39 => ?_) ?_
            · refine j_iconst (v := (1 : Int32)) C d_SR_isTooSoonOrLate_91 (by decide) ?_
              refine j_goto (tgt := 96) C d_SR_isTooSoonOrLate_92 (by decide) ?_
              exact k39
            · refine j_aload_n C d_SR_isTooSoonOrLate_84 0 rfl ?_
              refine j_getI C h0k fl_SR_69 rfl d_SR_isTooSoonOrLate_85 ?_
              refine d_if_eq (a := (0 : Int32)) (b := (1 : Int32)) (jp := 96) (tgt := 95) C d_SR_isTooSoonOrLate_88 (by decide) (fun c40 k41 => ?_) (fun c40 k41 => ?_) ?_
              · refine j_iconst (v := (0 : Int32)) C d_SR_isTooSoonOrLate_95 (by decide) ?_
                exact k41
              · refine j_iconst (v := (1 : Int32)) C d_SR_isTooSoonOrLate_91 (by decide) ?_
                refine j_goto (tgt := 96) C d_SR_isTooSoonOrLate_92 (by decide) ?_
                exact k41
              exact k39
            exact j_iretz C (fun ρ h => leaf_eq h) (nz01 (ite01 (Or.inr rfl) (ite01 (Or.inl rfl) (Or.inr rfl)))) d_SR_isTooSoonOrLate_96
          · refine j_look (off := 97) (tgt := 114) C d_SR_isTooSoonOrLate_17 (by decide) (by rw [lv_osw c4 (by decide), lv_osw c5 (by decide), lv_osw c6 (by decide), lv_osw c7 (by decide), lv_osw c8 (by decide)] <;> rfl) (by decide) ?_
            refine j_iconst (v := (0 : Int32)) C d_SR_isTooSoonOrLate_114 (by decide) ?_
            exact j_iretz C (fun ρ h => leaf_eq h) (nz01 (Or.inl rfl)) d_SR_isTooSoonOrLate_115
theorem c_SR_isTooSoonOrLate {l : Launch} {D : va_G} {G : GC} {ad : Nat → Nat} {k0 : Nat} (h0k : Is k0 9) (x1 : Int32) (σ : Mem) {q : Int32} (hq : f_SR_isTooSoonOrLate k0 x1 σ = some q) : Ctr l D G ad ⟨"LineFrames$StreamReader", "isTooSoonOrLate", "(I)Z"⟩ prog_10_method_8_code 3 (some .boolean) 2 42 [.ref (ad k0), .int x1] σ (.inl (some (.int q)), σ) := ctr_J (cv := (cvO (cvI σ))) (E := f_SR_isTooSoonOrLate k0 x1 σ) (by decide +kernel) (Nat.le_of_ble_eq_true rfl) (by rw [hq]; rfl) (fun F h C => by subst h; exact w_SR_isTooSoonOrLate C h0k x1 σ)
/-! LineFrames$StreamReader markAt (I)I -/
theorem d_SR_markAt_0 : decode prog_10_method_5_code 0 = .ok (.aload_n 0, 1) := by decide +kernel
theorem d_SR_markAt_1 : decode prog_10_method_5_code 1 = .ok (.getfield 72, 3) := by decide +kernel
theorem d_SR_markAt_4 : decode prog_10_method_5_code 4 = .ok (.invokevirtual 117, 3) := by decide +kernel
theorem d_SR_markAt_7 : decode prog_10_method_5_code 7 = .ok (.iload_n 1, 1) := by decide +kernel
theorem d_SR_markAt_8 : decode prog_10_method_5_code 8 = .ok (.isub, 1) := by decide +kernel
theorem d_SR_markAt_9 : decode prog_10_method_5_code 9 = .ok (.iconst 2, 1) := by decide +kernel
theorem d_SR_markAt_10 : decode prog_10_method_5_code 10 = .ok (.if_icmp .ge 20, 3) := by decide +kernel
theorem d_SR_markAt_13 : decode prog_10_method_5_code 13 = .ok (.aload_n 0, 1) := by decide +kernel
theorem d_SR_markAt_14 : decode prog_10_method_5_code 14 = .ok (.getfield 21, 3) := by decide +kernel
theorem d_SR_markAt_17 : decode prog_10_method_5_code 17 = .ok (.iconst 1, 1) := by decide +kernel
theorem d_SR_markAt_18 : decode prog_10_method_5_code 18 = .ok (.aload_n 0, 1) := by decide +kernel
theorem d_SR_markAt_19 : decode prog_10_method_5_code 19 = .ok (.getfield 72, 3) := by decide +kernel
theorem d_SR_markAt_22 : decode prog_10_method_5_code 22 = .ok (.invokevirtual 117, 3) := by decide +kernel
theorem d_SR_markAt_25 : decode prog_10_method_5_code 25 = .ok (.invokevirtual 110, 3) := by decide +kernel
theorem d_SR_markAt_28 : decode prog_10_method_5_code 28 = .ok (.iconst (-1), 1) := by decide +kernel
theorem d_SR_markAt_29 : decode prog_10_method_5_code 29 = .ok (.ireturn, 1) := by decide +kernel
theorem d_SR_markAt_30 : decode prog_10_method_5_code 30 = .ok (.aload_n 0, 1) := by decide +kernel
theorem d_SR_markAt_31 : decode prog_10_method_5_code 31 = .ok (.getfield 72, 3) := by decide +kernel
theorem d_SR_markAt_34 : decode prog_10_method_5_code 34 = .ok (.iload_n 1, 1) := by decide +kernel
theorem d_SR_markAt_35 : decode prog_10_method_5_code 35 = .ok (.iconst 1, 1) := by decide +kernel
theorem d_SR_markAt_36 : decode prog_10_method_5_code 36 = .ok (.iadd, 1) := by decide +kernel
theorem d_SR_markAt_37 : decode prog_10_method_5_code 37 = .ok (.invokevirtual 123, 3) := by decide +kernel
theorem d_SR_markAt_40 : decode prog_10_method_5_code 40 = .ok (.istore_n 2, 1) := by decide +kernel
theorem d_SR_markAt_41 : decode prog_10_method_5_code 41 = .ok (.aload_n 0, 1) := by decide +kernel
theorem d_SR_markAt_42 : decode prog_10_method_5_code 42 = .ok (.getfield 72, 3) := by decide +kernel
theorem d_SR_markAt_45 : decode prog_10_method_5_code 45 = .ok (.iload_n 1, 1) := by decide +kernel
theorem d_SR_markAt_46 : decode prog_10_method_5_code 46 = .ok (.invokevirtual 123, 3) := by decide +kernel
theorem d_SR_markAt_49 : decode prog_10_method_5_code 49 = .ok (.sipush 255, 3) := by decide +kernel
theorem d_SR_markAt_52 : decode prog_10_method_5_code 52 = .ok (.if_icmp .ne 34, 3) := by decide +kernel
theorem d_SR_markAt_55 : decode prog_10_method_5_code 55 = .ok (.iload_n 2, 1) := by decide +kernel
theorem d_SR_markAt_56 : decode prog_10_method_5_code 56 = .ok (.invokestatic 126, 3) := by decide +kernel
theorem d_SR_markAt_59 : decode prog_10_method_5_code 59 = .ok (.ifCond .eq 27, 3) := by decide +kernel
theorem d_SR_markAt_62 : decode prog_10_method_5_code 62 = .ok (.iload_n 2, 1) := by decide +kernel
theorem d_SR_markAt_63 : decode prog_10_method_5_code 63 = .ok (.sipush 216, 3) := by decide +kernel
theorem d_SR_markAt_66 : decode prog_10_method_5_code 66 = .ok (.if_icmp .ne 7, 3) := by decide +kernel
theorem d_SR_markAt_69 : decode prog_10_method_5_code 69 = .ok (.iconst 1, 1) := by decide +kernel
theorem d_SR_markAt_70 : decode prog_10_method_5_code 70 = .ok (.goto 4, 3) := by decide +kernel
theorem d_SR_markAt_73 : decode prog_10_method_5_code 73 = .ok (.iconst 0, 1) := by decide +kernel
theorem d_SR_markAt_74 : decode prog_10_method_5_code 74 = .ok (.iload_n 1, 1) := by decide +kernel
theorem d_SR_markAt_75 : decode prog_10_method_5_code 75 = .ok (.ifCond .ne 7, 3) := by decide +kernel
theorem d_SR_markAt_78 : decode prog_10_method_5_code 78 = .ok (.iconst 1, 1) := by decide +kernel
theorem d_SR_markAt_79 : decode prog_10_method_5_code 79 = .ok (.goto 4, 3) := by decide +kernel
theorem d_SR_markAt_82 : decode prog_10_method_5_code 82 = .ok (.iconst 0, 1) := by decide +kernel
theorem d_SR_markAt_83 : decode prog_10_method_5_code 83 = .ok (.if_icmp .eq 15, 3) := by decide +kernel
theorem d_SR_markAt_86 : decode prog_10_method_5_code 86 = .ok (.aload_n 0, 1) := by decide +kernel
theorem d_SR_markAt_87 : decode prog_10_method_5_code 87 = .ok (.getfield 21, 3) := by decide +kernel
theorem d_SR_markAt_90 : decode prog_10_method_5_code 90 = .ok (.iconst 2, 1) := by decide +kernel
theorem d_SR_markAt_91 : decode prog_10_method_5_code 91 = .ok (.iload_n 1, 1) := by decide +kernel
theorem d_SR_markAt_92 : decode prog_10_method_5_code 92 = .ok (.invokevirtual 110, 3) := by decide +kernel
theorem d_SR_markAt_95 : decode prog_10_method_5_code 95 = .ok (.goto 20, 3) := by decide +kernel
theorem d_SR_markAt_98 : decode prog_10_method_5_code 98 = .ok (.aload_n 0, 1) := by decide +kernel
theorem d_SR_markAt_99 : decode prog_10_method_5_code 99 = .ok (.iload_n 2, 1) := by decide +kernel
theorem d_SR_markAt_100 : decode prog_10_method_5_code 100 = .ok (.invokevirtual 130, 3) := by decide +kernel
theorem d_SR_markAt_103 : decode prog_10_method_5_code 103 = .ok (.ifCond .eq 12, 3) := by decide +kernel
theorem d_SR_markAt_106 : decode prog_10_method_5_code 106 = .ok (.aload_n 0, 1) := by decide +kernel
theorem d_SR_markAt_107 : decode prog_10_method_5_code 107 = .ok (.getfield 21, 3) := by decide +kernel
theorem d_SR_markAt_110 : decode prog_10_method_5_code 110 = .ok (.iconst 5, 1) := by decide +kernel
theorem d_SR_markAt_111 : decode prog_10_method_5_code 111 = .ok (.iload_n 1, 1) := by decide +kernel
theorem d_SR_markAt_112 : decode prog_10_method_5_code 112 = .ok (.invokevirtual 110, 3) := by decide +kernel
theorem d_SR_markAt_115 : decode prog_10_method_5_code 115 = .ok (.iload_n 2, 1) := by decide +kernel
theorem d_SR_markAt_116 : decode prog_10_method_5_code 116 = .ok (.ireturn, 1) := by decide +kernel
def f_SR_markAt (k0 : Nat) (x1 : Int32) (σ : Mem) : Option (Int32 × Mem) :=
  if (2 : Int32) ≤ ((f_BY_size (wtg k0 0) σ) - x1) then
  lt (f_BY_get (wtg k0 0) (x1 + (1 : Int32)) σ) fun v2 =>
  lt (fun  (σ20 : Mem) => 
  lt (f_FA_meet (wtg k0 2) (2 : Int32) x1 σ20) fun σ23 =>
  some (v2, σ23)) fun K21 =>
  if (f_BY_get (wtg k0 0) x1 σ) = (255 : Int32) then
  if (f_SR_isKnown v2 σ) = 0 then
  K21 σ
  else
  if (if v2 = (216 : Int32) then (1 : Int32) else (0 : Int32)) = (if x1 = 0 then (1 : Int32) else (0 : Int32)) then
  (f_SR_isTooSoonOrLate k0 v2 σ).bind fun r32 =>
  if r32 = 0 then
  some (v2, σ)
  else
  lt (f_FA_meet (wtg k0 2) (5 : Int32) x1 σ) fun σ38 =>
  some (v2, σ38)
  else
  K21 σ
  else
  K21 σ
  else
  lt (f_FA_meet (wtg k0 2) (1 : Int32) (f_BY_size (wtg k0 0) σ) σ) fun σ39 =>
  some ((-1 : Int32), σ39)
set_option maxHeartbeats 4000000 in
set_option maxRecDepth 100000 in
theorem w_SR_markAt {F : Fx} (C : Ctx F prog_10_method_5_code 3 "LineFrames$StreamReader" (some .int) 3 64) {k0 : Nat} (h0k : Is k0 9) (x1 : Int32) (σ : Mem) : J F 3 (cvO cvIM) (f_SR_markAt k0 x1 σ) σ 0 [(0, .ref (fad F k0)), (1, .int x1)] [] := by
  unfold f_SR_markAt
  refine j_aload_n C d_SR_markAt_0 0 rfl ?_
  refine j_getR C h0k fl_SR_72 rfl d_SR_markAt_1 ?_
  refine j_callVi C mv_SR_117 [] [] (tg_9_0 _ h0k) (c_BY_size (tg_9_0 _ h0k) σ) rfl rfl (by decide) (Nat.le_of_ble_eq_true rfl) d_SR_markAt_4 ?_
  refine j_iload_n C d_SR_markAt_7 1 rfl ?_
  refine j_isub C d_SR_markAt_8 ?_
  refine j_iconst (v := (2 : Int32)) C d_SR_markAt_9 (by decide) ?_
  refine j_icmp_ge (tgt := 30) C d_SR_markAt_10 (by decide) (fun c1 => ?_) (fun c1 => ?_)
  · refine j_aload_n C d_SR_markAt_30 0 rfl ?_
    refine j_getR C h0k fl_SR_72 rfl d_SR_markAt_31 ?_
    refine j_iload_n C d_SR_markAt_34 1 rfl ?_
    refine j_iconst (v := (1 : Int32)) C d_SR_markAt_35 (by decide) ?_
    refine j_iadd C d_SR_markAt_36 ?_
    refine j_callVi C mv_SR_123 [.int (x1 + (1 : Int32))] [] (tg_9_0 _ h0k) (c_BY_get (tg_9_0 _ h0k) (x1 + (1 : Int32)) σ) rfl rfl (by decide) (Nat.le_of_ble_eq_true rfl) d_SR_markAt_37 ?_
    refine j_nm (fun v2 v2_e => ?_)
    refine j_istore_n (lv9 := [(0, .ref (fad F k0)), (1, .int x1), (2, .int v2)]) C d_SR_markAt_40 rfl rfl (by decide) ?_
    refine j_aload_n C d_SR_markAt_41 0 rfl ?_
    refine j_getR C h0k fl_SR_72 rfl d_SR_markAt_42 ?_
    refine j_iload_n C d_SR_markAt_45 1 rfl ?_
    refine j_callVi C mv_SR_123 [.int x1] [] (tg_9_0 _ h0k) (c_BY_get (tg_9_0 _ h0k) x1 σ) rfl rfl (by decide) (Nat.le_of_ble_eq_true rfl) d_SR_markAt_46 ?_
    refine j_sipush (v := (255 : Int32)) C d_SR_markAt_49 (by decide) ?_
    refine j_join0m 86 (fun _ => [(0, .ref (fad F k0)), (1, .int x1), (2, .int v2)]) (fun _ => []) (fun σ20 => ?_) (fun K21 H22 => ?_)
    · refine j_aload_n C d_SR_markAt_86 0 rfl ?_
      refine j_getR C h0k fl_SR_21 rfl d_SR_markAt_87 ?_
      refine j_iconst (v := (2 : Int32)) C d_SR_markAt_90 (by decide) ?_
      refine j_iload_n C d_SR_markAt_91 1 rfl ?_
      refine j_callVv C mv_SR_110 [.int (2 : Int32), .int x1] [] (tg_9_2 _ h0k) (c_FA_meet (tg_9_2 _ h0k) (2 : Int32) x1 σ20) rfl rfl (by decide) (Nat.le_of_ble_eq_true rfl) d_SR_markAt_92 ?_
      refine j_genM (fun σ23 => ?_)
      refine j_goto (tgt := 115) C d_SR_markAt_95 (by decide) ?_
      refine j_iload_n C d_SR_markAt_115 2 rfl ?_
      exact j_ireti C (fun ρ h => leaf_eq h) d_SR_markAt_116
    · refine j_icmp_ne (tgt := 86) C d_SR_markAt_52 (by decide) (fun c24 => ?_) (fun c24 => ?_)
      · exact H22 σ
      · refine j_iload_n C d_SR_markAt_55 2 rfl ?_
        refine j_callSi C ms_SR_126 [.int v2] [] (c_SR_isKnown v2 σ) rfl rfl (by decide) (Nat.le_of_ble_eq_true rfl) d_SR_markAt_56 ?_
        refine j_if_eq (tgt := 86) C d_SR_markAt_59 (by decide) (fun c25 => ?_) (fun c25 => ?_)
        · exact H22 σ
        · refine j_iload_n C d_SR_markAt_62 2 rfl ?_
          refine j_sipush (v := (216 : Int32)) C d_SR_markAt_63 (by decide) ?_
          refine d_icmp_ne (a := (1 : Int32)) (b := (0 : Int32)) (jp := 74) (tgt := 73) C d_SR_markAt_66 (by decide) (fun c26 k27 => ?_) (fun c26 k27 => ?_) ?_
          · refine j_iconst (v := (0 : Int32)) C d_SR_markAt_73 (by decide) ?_
            exact k27
          · refine j_iconst (v := (1 : Int32)) C d_SR_markAt_69 (by decide) ?_
            refine j_goto (tgt := 74) C d_SR_markAt_70 (by decide) ?_
            exact k27
          refine j_iload_n C d_SR_markAt_74 1 rfl ?_
          refine d_if_ne (a := (1 : Int32)) (b := (0 : Int32)) (jp := 83) (tgt := 82) C d_SR_markAt_75 (by decide) (fun c28 k29 => ?_) (fun c28 k29 => ?_) ?_
          · refine j_iconst (v := (0 : Int32)) C d_SR_markAt_82 (by decide) ?_
            exact k29
          · refine j_iconst (v := (1 : Int32)) C d_SR_markAt_78 (by decide) ?_
            refine j_goto (tgt := 83) C d_SR_markAt_79 (by decide) ?_
            exact k29
          refine j_icmp_eq (tgt := 98) C d_SR_markAt_83 (by decide) (fun c30 => ?_) (fun c30 => ?_)
          · refine j_aload_n C d_SR_markAt_98 0 rfl ?_
            refine j_iload_n C d_SR_markAt_99 2 rfl ?_
            refine j_bind rfl (fun r32 e31 => ?_)
            refine j_callVi C mv_SR_130 [.int v2] [] h0k (c_SR_isTooSoonOrLate h0k v2 σ e31) rfl rfl (by decide) (Nat.le_of_ble_eq_true rfl) d_SR_markAt_100 ?_
            refine j_if_eq (tgt := 115) C d_SR_markAt_103 (by decide) (fun c37 => ?_) (fun c37 => ?_)
            · refine j_iload_n C d_SR_markAt_115 2 rfl ?_
              exact j_ireti C (fun ρ h => leaf_eq h) d_SR_markAt_116
            · refine j_aload_n C d_SR_markAt_106 0 rfl ?_
              refine j_getR C h0k fl_SR_21 rfl d_SR_markAt_107 ?_
              refine j_iconst (v := (5 : Int32)) C d_SR_markAt_110 (by decide) ?_
              refine j_iload_n C d_SR_markAt_111 1 rfl ?_
              refine j_callVv C mv_SR_110 [.int (5 : Int32), .int x1] [] (tg_9_2 _ h0k) (c_FA_meet (tg_9_2 _ h0k) (5 : Int32) x1 σ) rfl rfl (by decide) (Nat.le_of_ble_eq_true rfl) d_SR_markAt_112 ?_
              refine j_genM (fun σ38 => ?_)
              refine j_iload_n C d_SR_markAt_115 2 rfl ?_
              exact j_ireti C (fun ρ h => leaf_eq h) d_SR_markAt_116
          · exact H22 σ
  · refine j_aload_n C d_SR_markAt_13 0 rfl ?_
    refine j_getR C h0k fl_SR_21 rfl d_SR_markAt_14 ?_
    refine j_iconst (v := (1 : Int32)) C d_SR_markAt_17 (by decide) ?_
    refine j_aload_n C d_SR_markAt_18 0 rfl ?_
    refine j_getR C h0k fl_SR_72 rfl d_SR_markAt_19 ?_
    refine j_callVi C mv_SR_117 [] [.int (1 : Int32), .ref (fad F (wtg k0 2))] (tg_9_0 _ h0k) (c_BY_size (tg_9_0 _ h0k) σ) rfl rfl (by decide) (Nat.le_of_ble_eq_true rfl) d_SR_markAt_22 ?_
    refine j_callVv C mv_SR_110 [.int (1 : Int32), .int (f_BY_size (wtg k0 0) σ)] [] (tg_9_2 _ h0k) (c_FA_meet (tg_9_2 _ h0k) (1 : Int32) (f_BY_size (wtg k0 0) σ) σ) rfl rfl (by decide) (Nat.le_of_ble_eq_true rfl) d_SR_markAt_25 ?_
    refine j_genM (fun σ39 => ?_)
    refine j_iconst (v := (-1 : Int32)) C d_SR_markAt_28 (by decide) ?_
    exact j_ireti C (fun ρ h => leaf_eq h) d_SR_markAt_29
theorem c_SR_markAt {l : Launch} {D : va_G} {G : GC} {ad : Nat → Nat} {k0 : Nat} (h0k : Is k0 9) (x1 : Int32) (σ : Mem) {q : Int32 × Mem} (hq : f_SR_markAt k0 x1 σ = some q) : Ctr l D G ad ⟨"LineFrames$StreamReader", "markAt", "(I)I"⟩ prog_10_method_5_code 3 (some .int) 3 64 [.ref (ad k0), .int x1] σ (.inl (some (.int q.1)), q.2) := ctr_J (cv := (cvO cvIM)) (E := f_SR_markAt k0 x1 σ) (by decide +kernel) (Nat.le_of_ble_eq_true rfl) (by rw [hq]; rfl) (fun F h C => by subst h; exact w_SR_markAt C h0k x1 σ)
/-! LineFrames$Bytes has (I)Z -/
theorem d_BY_has_0 : decode prog_4_method_4_code 0 = .ok (.iload_n 1, 1) := by decide +kernel
theorem d_BY_has_1 : decode prog_4_method_4_code 1 = .ok (.ifCond .lt 15, 3) := by decide +kernel
theorem d_BY_has_4 : decode prog_4_method_4_code 4 = .ok (.iload_n 1, 1) := by decide +kernel
theorem d_BY_has_5 : decode prog_4_method_4_code 5 = .ok (.aload_n 0, 1) := by decide +kernel
theorem d_BY_has_6 : decode prog_4_method_4_code 6 = .ok (.getfield 15, 3) := by decide +kernel
theorem d_BY_has_9 : decode prog_4_method_4_code 9 = .ok (.if_icmp .ge 7, 3) := by decide +kernel
theorem d_BY_has_12 : decode prog_4_method_4_code 12 = .ok (.iconst 1, 1) := by decide +kernel
theorem d_BY_has_13 : decode prog_4_method_4_code 13 = .ok (.goto 4, 3) := by decide +kernel
theorem d_BY_has_16 : decode prog_4_method_4_code 16 = .ok (.iconst 0, 1) := by decide +kernel
theorem d_BY_has_17 : decode prog_4_method_4_code 17 = .ok (.ireturn, 1) := by decide +kernel
def f_BY_has (k0 : Nat) (x1 : Int32) (σ : Mem) : Int32 :=
  (if x1 < 0 then (0 : Int32) else (if (σ k0 1) ≤ x1 then (0 : Int32) else (1 : Int32)))
set_option maxHeartbeats 4000000 in
set_option maxRecDepth 100000 in
theorem w_BY_has {F : Fx} (C : Ctx F prog_4_method_4_code 2 "LineFrames$Bytes" (some .boolean) 0 0) {k0 : Nat} (h0k : Is k0 3) (x1 : Int32) (σ : Mem) : J F 2 (cvI σ) (f_BY_has k0 x1 σ) σ 0 [(0, .ref (fad F k0)), (1, .int x1)] [] := by
  unfold f_BY_has
  refine j_iload_n C d_BY_has_0 1 rfl ?_
  refine d_if_lt (a := (0 : Int32)) (b := (if (σ k0 1) ≤ x1 then (0 : Int32) else (1 : Int32))) (jp := 17) (tgt := 16) C d_BY_has_1 (by decide) (fun c3 k4 => ?_) (fun c3 k4 => ?_) ?_
  · refine j_iconst (v := (0 : Int32)) C d_BY_has_16 (by decide) ?_
    exact k4
  · refine j_iload_n C d_BY_has_4 1 rfl ?_
    refine j_aload_n C d_BY_has_5 0 rfl ?_
    refine j_getI C h0k fl_BY_15 rfl d_BY_has_6 ?_
    refine d_icmp_ge (a := (0 : Int32)) (b := (1 : Int32)) (jp := 17) (tgt := 16) C d_BY_has_9 (by decide) (fun c5 k6 => ?_) (fun c5 k6 => ?_) ?_
    · refine j_iconst (v := (0 : Int32)) C d_BY_has_16 (by decide) ?_
      exact k6
    · refine j_iconst (v := (1 : Int32)) C d_BY_has_12 (by decide) ?_
      refine j_goto (tgt := 17) C d_BY_has_13 (by decide) ?_
      exact k6
    exact k4
  exact j_iretz C (fun ρ h => leaf_eq h) (nz01 (ite01 (Or.inl rfl) (ite01 (Or.inl rfl) (Or.inr rfl)))) d_BY_has_17
theorem c_BY_has {l : Launch} {D : va_G} {G : GC} {ad : Nat → Nat} {k0 : Nat} (h0k : Is k0 3) (x1 : Int32) (σ : Mem) : Ctr l D G ad ⟨"LineFrames$Bytes", "has", "(I)Z"⟩ prog_4_method_4_code 2 (some .boolean) 0 0 [.ref (ad k0), .int x1] σ (.inl (some (.int (f_BY_has k0 x1 σ))), σ) := ctr_J (cv := (cvI σ)) (E := f_BY_has k0 x1 σ) (by decide +kernel) (Nat.le_of_ble_eq_true rfl) rfl (fun F h C => by subst h; exact w_BY_has C h0k x1 σ)
theorem z_BY_has (k0 : Nat) (x1 : Int32) (σ : Mem) : f_BY_has k0 x1 σ = 0 ∨ f_BY_has k0 x1 σ = 1 := by
  unfold f_BY_has
  try simp only [lt]
  repeat' split
  all_goals first | exact Or.inl rfl | exact Or.inr rfl
/-! LineFrames$StreamReader end ()V -/
theorem d_SR_end_0 : decode prog_10_method_10_code 0 = .ok (.aload_n 0, 1) := by decide +kernel
theorem d_SR_end_1 : decode prog_10_method_10_code 1 = .ok (.getfield 72, 3) := by decide +kernel
theorem d_SR_end_4 : decode prog_10_method_10_code 4 = .ok (.aload_n 0, 1) := by decide +kernel
theorem d_SR_end_5 : decode prog_10_method_10_code 5 = .ok (.getfield 46, 3) := by decide +kernel
theorem d_SR_end_8 : decode prog_10_method_10_code 8 = .ok (.invokevirtual 143, 3) := by decide +kernel
theorem d_SR_end_11 : decode prog_10_method_10_code 11 = .ok (.ifCond .eq 19, 3) := by decide +kernel
theorem d_SR_end_14 : decode prog_10_method_10_code 14 = .ok (.aload_n 0, 1) := by decide +kernel
theorem d_SR_end_15 : decode prog_10_method_10_code 15 = .ok (.getfield 21, 3) := by decide +kernel
theorem d_SR_end_18 : decode prog_10_method_10_code 18 = .ok (.bipush 9, 2) := by decide +kernel
theorem d_SR_end_20 : decode prog_10_method_10_code 20 = .ok (.aload_n 0, 1) := by decide +kernel
theorem d_SR_end_21 : decode prog_10_method_10_code 21 = .ok (.getfield 46, 3) := by decide +kernel
theorem d_SR_end_24 : decode prog_10_method_10_code 24 = .ok (.invokevirtual 110, 3) := by decide +kernel
theorem d_SR_end_27 : decode prog_10_method_10_code 27 = .ok (.goto 8, 3) := by decide +kernel
theorem d_SR_end_30 : decode prog_10_method_10_code 30 = .ok (.aload_n 0, 1) := by decide +kernel
theorem d_SR_end_31 : decode prog_10_method_10_code 31 = .ok (.iconst 1, 1) := by decide +kernel
theorem d_SR_end_32 : decode prog_10_method_10_code 32 = .ok (.putfield 50, 3) := by decide +kernel
theorem d_SR_end_35 : decode prog_10_method_10_code 35 = .ok (.return_, 1) := by decide +kernel
def f_SR_end (k0 : Nat) (σ : Mem) : Mem :=
  if (f_BY_has (wtg k0 0) (σ k0 6) σ) = 0 then
  lt (mput σ k0 7 (1 : Int32)) fun σ4 =>
  σ4
  else
  lt (f_FA_meet (wtg k0 2) (9 : Int32) (σ k0 6) σ) fun σ5 =>
  σ5
set_option maxHeartbeats 4000000 in
set_option maxRecDepth 100000 in
theorem w_SR_end {F : Fx} (C : Ctx F prog_10_method_10_code 1 "LineFrames$StreamReader" none 1 22) {k0 : Nat} (h0k : Is k0 9) (σ : Mem) : J F 1 cvM (f_SR_end k0 σ) σ 0 [(0, .ref (fad F k0))] [] := by
  unfold f_SR_end
  refine j_aload_n C d_SR_end_0 0 rfl ?_
  refine j_getR C h0k fl_SR_72 rfl d_SR_end_1 ?_
  refine j_aload_n C d_SR_end_4 0 rfl ?_
  refine j_getI C h0k fl_SR_46 rfl d_SR_end_5 ?_
  refine j_callVi C mv_SR_143 [.int (σ k0 6)] [] (tg_9_0 _ h0k) (c_BY_has (tg_9_0 _ h0k) (σ k0 6) σ) rfl rfl (by decide) (Nat.le_of_ble_eq_true rfl) d_SR_end_8 ?_
  refine j_if_eq (tgt := 30) C d_SR_end_11 (by decide) (fun c3 => ?_) (fun c3 => ?_)
  · refine j_aload_n C d_SR_end_30 0 rfl ?_
    refine j_iconst (v := (1 : Int32)) C d_SR_end_31 (by decide) ?_
    refine j_put C h0k fl_SR_50 fw_9_7 rfl (nz01 (Or.inr rfl)) rfl d_SR_end_32 (fun σ4 => ?_)
    exact j_vret C (fun ρ h => leaf_eq h) d_SR_end_35
  · refine j_aload_n C d_SR_end_14 0 rfl ?_
    refine j_getR C h0k fl_SR_21 rfl d_SR_end_15 ?_
    refine j_bipush (v := (9 : Int32)) C d_SR_end_18 (by decide) ?_
    refine j_aload_n C d_SR_end_20 0 rfl ?_
    refine j_getI C h0k fl_SR_46 rfl d_SR_end_21 ?_
    refine j_callVv C mv_SR_110 [.int (9 : Int32), .int (σ k0 6)] [] (tg_9_2 _ h0k) (c_FA_meet (tg_9_2 _ h0k) (9 : Int32) (σ k0 6) σ) rfl rfl (by decide) (Nat.le_of_ble_eq_true rfl) d_SR_end_24 ?_
    refine j_genM (fun σ5 => ?_)
    refine j_goto (tgt := 35) C d_SR_end_27 (by decide) ?_
    exact j_vret C (fun ρ h => leaf_eq h) d_SR_end_35
theorem c_SR_end {l : Launch} {D : va_G} {G : GC} {ad : Nat → Nat} {k0 : Nat} (h0k : Is k0 9) (σ : Mem) : Ctr l D G ad ⟨"LineFrames$StreamReader", "end", "()V"⟩ prog_10_method_10_code 1 none 1 22 [.ref (ad k0)] σ (.inl none, (f_SR_end k0 σ)) := ctr_J (cv := cvM) (E := f_SR_end k0 σ) (by decide +kernel) (Nat.le_of_ble_eq_true rfl) rfl (fun F h C => by subst h; exact w_SR_end C h0k σ)
/-! LineFrames$Bytes wide (I)I -/
theorem d_BY_wide_0 : decode prog_4_method_6_code 0 = .ok (.aload_n 0, 1) := by decide +kernel
theorem d_BY_wide_1 : decode prog_4_method_6_code 1 = .ok (.iload_n 1, 1) := by decide +kernel
theorem d_BY_wide_2 : decode prog_4_method_6_code 2 = .ok (.invokevirtual 19, 3) := by decide +kernel
theorem d_BY_wide_5 : decode prog_4_method_6_code 5 = .ok (.sipush 256, 3) := by decide +kernel
theorem d_BY_wide_8 : decode prog_4_method_6_code 8 = .ok (.imul, 1) := by decide +kernel
theorem d_BY_wide_9 : decode prog_4_method_6_code 9 = .ok (.aload_n 0, 1) := by decide +kernel
theorem d_BY_wide_10 : decode prog_4_method_6_code 10 = .ok (.iload_n 1, 1) := by decide +kernel
theorem d_BY_wide_11 : decode prog_4_method_6_code 11 = .ok (.iconst 1, 1) := by decide +kernel
theorem d_BY_wide_12 : decode prog_4_method_6_code 12 = .ok (.iadd, 1) := by decide +kernel
theorem d_BY_wide_13 : decode prog_4_method_6_code 13 = .ok (.invokevirtual 19, 3) := by decide +kernel
theorem d_BY_wide_16 : decode prog_4_method_6_code 16 = .ok (.iadd, 1) := by decide +kernel
theorem d_BY_wide_17 : decode prog_4_method_6_code 17 = .ok (.ireturn, 1) := by decide +kernel
def f_BY_wide (k0 : Nat) (x1 : Int32) (σ : Mem) : Int32 :=
  (((f_BY_get k0 x1 σ) * (256 : Int32)) + (f_BY_get k0 (x1 + (1 : Int32)) σ))
set_option maxHeartbeats 4000000 in
set_option maxRecDepth 100000 in
theorem w_BY_wide {F : Fx} (C : Ctx F prog_4_method_6_code 2 "LineFrames$Bytes" (some .int) 1 21) {k0 : Nat} (h0k : Is k0 3) (x1 : Int32) (σ : Mem) : J F 2 (cvI σ) (f_BY_wide k0 x1 σ) σ 0 [(0, .ref (fad F k0)), (1, .int x1)] [] := by
  unfold f_BY_wide
  refine j_aload_n C d_BY_wide_0 0 rfl ?_
  refine j_iload_n C d_BY_wide_1 1 rfl ?_
  refine j_callVi C mv_BY_19 [.int x1] [] h0k (c_BY_get h0k x1 σ) rfl rfl (by decide) (Nat.le_of_ble_eq_true rfl) d_BY_wide_2 ?_
  refine j_sipush (v := (256 : Int32)) C d_BY_wide_5 (by decide) ?_
  refine j_imul C d_BY_wide_8 ?_
  refine j_aload_n C d_BY_wide_9 0 rfl ?_
  refine j_iload_n C d_BY_wide_10 1 rfl ?_
  refine j_iconst (v := (1 : Int32)) C d_BY_wide_11 (by decide) ?_
  refine j_iadd C d_BY_wide_12 ?_
  refine j_callVi C mv_BY_19 [.int (x1 + (1 : Int32))] [.int ((f_BY_get k0 x1 σ) * (256 : Int32))] h0k (c_BY_get h0k (x1 + (1 : Int32)) σ) rfl rfl (by decide) (Nat.le_of_ble_eq_true rfl) d_BY_wide_13 ?_
  refine j_iadd C d_BY_wide_16 ?_
  exact j_ireti C (fun ρ h => leaf_eq h) d_BY_wide_17
theorem c_BY_wide {l : Launch} {D : va_G} {G : GC} {ad : Nat → Nat} {k0 : Nat} (h0k : Is k0 3) (x1 : Int32) (σ : Mem) : Ctr l D G ad ⟨"LineFrames$Bytes", "wide", "(I)I"⟩ prog_4_method_6_code 2 (some .int) 1 21 [.ref (ad k0), .int x1] σ (.inl (some (.int (f_BY_wide k0 x1 σ))), σ) := ctr_J (cv := (cvI σ)) (E := f_BY_wide k0 x1 σ) (by decide +kernel) (Nat.le_of_ble_eq_true rfl) rfl (fun F h C => by subst h; exact w_BY_wide C h0k x1 σ)
/-! LineFrames$StreamReader lengthAt (I)I -/
theorem d_SR_lengthAt_0 : decode prog_10_method_11_code 0 = .ok (.aload_n 0, 1) := by decide +kernel
theorem d_SR_lengthAt_1 : decode prog_10_method_11_code 1 = .ok (.getfield 72, 3) := by decide +kernel
theorem d_SR_lengthAt_4 : decode prog_10_method_11_code 4 = .ok (.iload_n 1, 1) := by decide +kernel
theorem d_SR_lengthAt_5 : decode prog_10_method_11_code 5 = .ok (.iconst 2, 1) := by decide +kernel
theorem d_SR_lengthAt_6 : decode prog_10_method_11_code 6 = .ok (.iadd, 1) := by decide +kernel
theorem d_SR_lengthAt_7 : decode prog_10_method_11_code 7 = .ok (.invokevirtual 146, 3) := by decide +kernel
theorem d_SR_lengthAt_10 : decode prog_10_method_11_code 10 = .ok (.istore_n 2, 1) := by decide +kernel
theorem d_SR_lengthAt_11 : decode prog_10_method_11_code 11 = .ok (.aload_n 0, 1) := by decide +kernel
theorem d_SR_lengthAt_12 : decode prog_10_method_11_code 12 = .ok (.getfield 72, 3) := by decide +kernel
theorem d_SR_lengthAt_15 : decode prog_10_method_11_code 15 = .ok (.invokevirtual 117, 3) := by decide +kernel
theorem d_SR_lengthAt_18 : decode prog_10_method_11_code 18 = .ok (.iload_n 1, 1) := by decide +kernel
theorem d_SR_lengthAt_19 : decode prog_10_method_11_code 19 = .ok (.isub, 1) := by decide +kernel
theorem d_SR_lengthAt_20 : decode prog_10_method_11_code 20 = .ok (.iconst 4, 1) := by decide +kernel
theorem d_SR_lengthAt_21 : decode prog_10_method_11_code 21 = .ok (.if_icmp .ge 21, 3) := by decide +kernel
theorem d_SR_lengthAt_24 : decode prog_10_method_11_code 24 = .ok (.aload_n 0, 1) := by decide +kernel
theorem d_SR_lengthAt_25 : decode prog_10_method_11_code 25 = .ok (.getfield 21, 3) := by decide +kernel
theorem d_SR_lengthAt_28 : decode prog_10_method_11_code 28 = .ok (.iconst 1, 1) := by decide +kernel
theorem d_SR_lengthAt_29 : decode prog_10_method_11_code 29 = .ok (.aload_n 0, 1) := by decide +kernel
theorem d_SR_lengthAt_30 : decode prog_10_method_11_code 30 = .ok (.getfield 72, 3) := by decide +kernel
theorem d_SR_lengthAt_33 : decode prog_10_method_11_code 33 = .ok (.invokevirtual 117, 3) := by decide +kernel
theorem d_SR_lengthAt_36 : decode prog_10_method_11_code 36 = .ok (.invokevirtual 110, 3) := by decide +kernel
theorem d_SR_lengthAt_39 : decode prog_10_method_11_code 39 = .ok (.goto 50, 3) := by decide +kernel
theorem d_SR_lengthAt_42 : decode prog_10_method_11_code 42 = .ok (.iload_n 2, 1) := by decide +kernel
theorem d_SR_lengthAt_43 : decode prog_10_method_11_code 43 = .ok (.iconst 2, 1) := by decide +kernel
theorem d_SR_lengthAt_44 : decode prog_10_method_11_code 44 = .ok (.if_icmp .ge 15, 3) := by decide +kernel
theorem d_SR_lengthAt_47 : decode prog_10_method_11_code 47 = .ok (.aload_n 0, 1) := by decide +kernel
theorem d_SR_lengthAt_48 : decode prog_10_method_11_code 48 = .ok (.getfield 21, 3) := by decide +kernel
theorem d_SR_lengthAt_51 : decode prog_10_method_11_code 51 = .ok (.iconst 3, 1) := by decide +kernel
theorem d_SR_lengthAt_52 : decode prog_10_method_11_code 52 = .ok (.iload_n 1, 1) := by decide +kernel
theorem d_SR_lengthAt_53 : decode prog_10_method_11_code 53 = .ok (.invokevirtual 110, 3) := by decide +kernel
theorem d_SR_lengthAt_56 : decode prog_10_method_11_code 56 = .ok (.goto 33, 3) := by decide +kernel
theorem d_SR_lengthAt_59 : decode prog_10_method_11_code 59 = .ok (.aload_n 0, 1) := by decide +kernel
theorem d_SR_lengthAt_60 : decode prog_10_method_11_code 60 = .ok (.getfield 72, 3) := by decide +kernel
theorem d_SR_lengthAt_63 : decode prog_10_method_11_code 63 = .ok (.invokevirtual 117, 3) := by decide +kernel
theorem d_SR_lengthAt_66 : decode prog_10_method_11_code 66 = .ok (.iload_n 1, 1) := by decide +kernel
theorem d_SR_lengthAt_67 : decode prog_10_method_11_code 67 = .ok (.isub, 1) := by decide +kernel
theorem d_SR_lengthAt_68 : decode prog_10_method_11_code 68 = .ok (.iconst 2, 1) := by decide +kernel
theorem d_SR_lengthAt_69 : decode prog_10_method_11_code 69 = .ok (.isub, 1) := by decide +kernel
theorem d_SR_lengthAt_70 : decode prog_10_method_11_code 70 = .ok (.iload_n 2, 1) := by decide +kernel
theorem d_SR_lengthAt_71 : decode prog_10_method_11_code 71 = .ok (.if_icmp .ge 18, 3) := by decide +kernel
theorem d_SR_lengthAt_74 : decode prog_10_method_11_code 74 = .ok (.aload_n 0, 1) := by decide +kernel
theorem d_SR_lengthAt_75 : decode prog_10_method_11_code 75 = .ok (.getfield 21, 3) := by decide +kernel
theorem d_SR_lengthAt_78 : decode prog_10_method_11_code 78 = .ok (.iconst 1, 1) := by decide +kernel
theorem d_SR_lengthAt_79 : decode prog_10_method_11_code 79 = .ok (.aload_n 0, 1) := by decide +kernel
theorem d_SR_lengthAt_80 : decode prog_10_method_11_code 80 = .ok (.getfield 72, 3) := by decide +kernel
theorem d_SR_lengthAt_83 : decode prog_10_method_11_code 83 = .ok (.invokevirtual 117, 3) := by decide +kernel
theorem d_SR_lengthAt_86 : decode prog_10_method_11_code 86 = .ok (.invokevirtual 110, 3) := by decide +kernel
theorem d_SR_lengthAt_89 : decode prog_10_method_11_code 89 = .ok (.iload_n 2, 1) := by decide +kernel
theorem d_SR_lengthAt_90 : decode prog_10_method_11_code 90 = .ok (.ireturn, 1) := by decide +kernel
def f_SR_lengthAt (k0 : Nat) (x1 : Int32) (σ : Mem) : Int32 × Mem :=
  lt (f_BY_wide (wtg k0 0) (x1 + (2 : Int32)) σ) fun v1 =>
  if (4 : Int32) ≤ ((f_BY_size (wtg k0 0) σ) - x1) then
  if (2 : Int32) ≤ v1 then
  if v1 ≤ (((f_BY_size (wtg k0 0) σ) - x1) - (2 : Int32)) then
  (v1, σ)
  else
  lt (f_FA_meet (wtg k0 2) (1 : Int32) (f_BY_size (wtg k0 0) σ) σ) fun σ29 =>
  (v1, σ29)
  else
  lt (f_FA_meet (wtg k0 2) (3 : Int32) x1 σ) fun σ30 =>
  (v1, σ30)
  else
  lt (f_FA_meet (wtg k0 2) (1 : Int32) (f_BY_size (wtg k0 0) σ) σ) fun σ31 =>
  (v1, σ31)
set_option maxHeartbeats 4000000 in
set_option maxRecDepth 100000 in
theorem w_SR_lengthAt {F : Fx} (C : Ctx F prog_10_method_11_code 3 "LineFrames$StreamReader" (some .int) 2 42) {k0 : Nat} (h0k : Is k0 9) (x1 : Int32) (σ : Mem) : J F 3 cvIM (f_SR_lengthAt k0 x1 σ) σ 0 [(0, .ref (fad F k0)), (1, .int x1)] [] := by
  unfold f_SR_lengthAt
  refine j_aload_n C d_SR_lengthAt_0 0 rfl ?_
  refine j_getR C h0k fl_SR_72 rfl d_SR_lengthAt_1 ?_
  refine j_iload_n C d_SR_lengthAt_4 1 rfl ?_
  refine j_iconst (v := (2 : Int32)) C d_SR_lengthAt_5 (by decide) ?_
  refine j_iadd C d_SR_lengthAt_6 ?_
  refine j_callVi C mv_SR_146 [.int (x1 + (2 : Int32))] [] (tg_9_0 _ h0k) (c_BY_wide (tg_9_0 _ h0k) (x1 + (2 : Int32)) σ) rfl rfl (by decide) (Nat.le_of_ble_eq_true rfl) d_SR_lengthAt_7 ?_
  refine j_nm (fun v1 v1_e => ?_)
  refine j_istore_n (lv9 := [(0, .ref (fad F k0)), (1, .int x1), (2, .int v1)]) C d_SR_lengthAt_10 rfl rfl (by decide) ?_
  refine j_aload_n C d_SR_lengthAt_11 0 rfl ?_
  refine j_getR C h0k fl_SR_72 rfl d_SR_lengthAt_12 ?_
  refine j_callVi C mv_SR_117 [] [] (tg_9_0 _ h0k) (c_BY_size (tg_9_0 _ h0k) σ) rfl rfl (by decide) (Nat.le_of_ble_eq_true rfl) d_SR_lengthAt_15 ?_
  refine j_iload_n C d_SR_lengthAt_18 1 rfl ?_
  refine j_isub C d_SR_lengthAt_19 ?_
  refine j_iconst (v := (4 : Int32)) C d_SR_lengthAt_20 (by decide) ?_
  refine j_icmp_ge (tgt := 42) C d_SR_lengthAt_21 (by decide) (fun c14 => ?_) (fun c14 => ?_)
  · refine j_iload_n C d_SR_lengthAt_42 2 rfl ?_
    refine j_iconst (v := (2 : Int32)) C d_SR_lengthAt_43 (by decide) ?_
    refine j_icmp_ge (tgt := 59) C d_SR_lengthAt_44 (by decide) (fun c23 => ?_) (fun c23 => ?_)
    · refine j_aload_n C d_SR_lengthAt_59 0 rfl ?_
      refine j_getR C h0k fl_SR_72 rfl d_SR_lengthAt_60 ?_
      refine j_callVi C mv_SR_117 [] [] (tg_9_0 _ h0k) (c_BY_size (tg_9_0 _ h0k) σ) rfl rfl (by decide) (Nat.le_of_ble_eq_true rfl) d_SR_lengthAt_63 ?_
      refine j_iload_n C d_SR_lengthAt_66 1 rfl ?_
      refine j_isub C d_SR_lengthAt_67 ?_
      refine j_iconst (v := (2 : Int32)) C d_SR_lengthAt_68 (by decide) ?_
      refine j_isub C d_SR_lengthAt_69 ?_
      refine j_iload_n C d_SR_lengthAt_70 2 rfl ?_
      refine j_icmp_ge (tgt := 89) C d_SR_lengthAt_71 (by decide) (fun c28 => ?_) (fun c28 => ?_)
      · refine j_iload_n C d_SR_lengthAt_89 2 rfl ?_
        exact j_ireti C (fun ρ h => leaf_eq h) d_SR_lengthAt_90
      · refine j_aload_n C d_SR_lengthAt_74 0 rfl ?_
        refine j_getR C h0k fl_SR_21 rfl d_SR_lengthAt_75 ?_
        refine j_iconst (v := (1 : Int32)) C d_SR_lengthAt_78 (by decide) ?_
        refine j_aload_n C d_SR_lengthAt_79 0 rfl ?_
        refine j_getR C h0k fl_SR_72 rfl d_SR_lengthAt_80 ?_
        refine j_callVi C mv_SR_117 [] [.int (1 : Int32), .ref (fad F (wtg k0 2))] (tg_9_0 _ h0k) (c_BY_size (tg_9_0 _ h0k) σ) rfl rfl (by decide) (Nat.le_of_ble_eq_true rfl) d_SR_lengthAt_83 ?_
        refine j_callVv C mv_SR_110 [.int (1 : Int32), .int (f_BY_size (wtg k0 0) σ)] [] (tg_9_2 _ h0k) (c_FA_meet (tg_9_2 _ h0k) (1 : Int32) (f_BY_size (wtg k0 0) σ) σ) rfl rfl (by decide) (Nat.le_of_ble_eq_true rfl) d_SR_lengthAt_86 ?_
        refine j_genM (fun σ29 => ?_)
        refine j_iload_n C d_SR_lengthAt_89 2 rfl ?_
        exact j_ireti C (fun ρ h => leaf_eq h) d_SR_lengthAt_90
    · refine j_aload_n C d_SR_lengthAt_47 0 rfl ?_
      refine j_getR C h0k fl_SR_21 rfl d_SR_lengthAt_48 ?_
      refine j_iconst (v := (3 : Int32)) C d_SR_lengthAt_51 (by decide) ?_
      refine j_iload_n C d_SR_lengthAt_52 1 rfl ?_
      refine j_callVv C mv_SR_110 [.int (3 : Int32), .int x1] [] (tg_9_2 _ h0k) (c_FA_meet (tg_9_2 _ h0k) (3 : Int32) x1 σ) rfl rfl (by decide) (Nat.le_of_ble_eq_true rfl) d_SR_lengthAt_53 ?_
      refine j_genM (fun σ30 => ?_)
      refine j_goto (tgt := 89) C d_SR_lengthAt_56 (by decide) ?_
      refine j_iload_n C d_SR_lengthAt_89 2 rfl ?_
      exact j_ireti C (fun ρ h => leaf_eq h) d_SR_lengthAt_90
  · refine j_aload_n C d_SR_lengthAt_24 0 rfl ?_
    refine j_getR C h0k fl_SR_21 rfl d_SR_lengthAt_25 ?_
    refine j_iconst (v := (1 : Int32)) C d_SR_lengthAt_28 (by decide) ?_
    refine j_aload_n C d_SR_lengthAt_29 0 rfl ?_
    refine j_getR C h0k fl_SR_72 rfl d_SR_lengthAt_30 ?_
    refine j_callVi C mv_SR_117 [] [.int (1 : Int32), .ref (fad F (wtg k0 2))] (tg_9_0 _ h0k) (c_BY_size (tg_9_0 _ h0k) σ) rfl rfl (by decide) (Nat.le_of_ble_eq_true rfl) d_SR_lengthAt_33 ?_
    refine j_callVv C mv_SR_110 [.int (1 : Int32), .int (f_BY_size (wtg k0 0) σ)] [] (tg_9_2 _ h0k) (c_FA_meet (tg_9_2 _ h0k) (1 : Int32) (f_BY_size (wtg k0 0) σ) σ) rfl rfl (by decide) (Nat.le_of_ble_eq_true rfl) d_SR_lengthAt_36 ?_
    refine j_genM (fun σ31 => ?_)
    refine j_goto (tgt := 89) C d_SR_lengthAt_39 (by decide) ?_
    refine j_iload_n C d_SR_lengthAt_89 2 rfl ?_
    exact j_ireti C (fun ρ h => leaf_eq h) d_SR_lengthAt_90
theorem c_SR_lengthAt {l : Launch} {D : va_G} {G : GC} {ad : Nat → Nat} {k0 : Nat} (h0k : Is k0 9) (x1 : Int32) (σ : Mem) : Ctr l D G ad ⟨"LineFrames$StreamReader", "lengthAt", "(I)I"⟩ prog_10_method_11_code 3 (some .int) 2 42 [.ref (ad k0), .int x1] σ (.inl (some (.int (f_SR_lengthAt k0 x1 σ).1)), (f_SR_lengthAt k0 x1 σ).2) := ctr_J (cv := cvIM) (E := f_SR_lengthAt k0 x1 σ) (by decide +kernel) (Nat.le_of_ble_eq_true rfl) rfl (fun F h C => by subst h; exact w_SR_lengthAt C h0k x1 σ)
