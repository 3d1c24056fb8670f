/-! LineFrames$StreamWriter addFrame ()V -/
theorem d_SW_addFrame_0 : decode prog_11_method_6_code 0 = .ok (.aload_n 0, 1) := by decide +kernel
theorem d_SW_addFrame_1 : decode prog_11_method_6_code 1 = .ok (.sipush 247, 3) := by decide +kernel
theorem d_SW_addFrame_4 : decode prog_11_method_6_code 4 = .ok (.bipush 8, 2) := by decide +kernel
theorem d_SW_addFrame_6 : decode prog_11_method_6_code 6 = .ok (.iconst 3, 1) := by decide +kernel
theorem d_SW_addFrame_7 : decode prog_11_method_6_code 7 = .ok (.aload_n 0, 1) := by decide +kernel
theorem d_SW_addFrame_8 : decode prog_11_method_6_code 8 = .ok (.getfield 25, 3) := by decide +kernel
theorem d_SW_addFrame_11 : decode prog_11_method_6_code 11 = .ok (.getfield 65, 3) := by decide +kernel
theorem d_SW_addFrame_14 : decode prog_11_method_6_code 14 = .ok (.imul, 1) := by decide +kernel
theorem d_SW_addFrame_15 : decode prog_11_method_6_code 15 = .ok (.iadd, 1) := by decide +kernel
theorem d_SW_addFrame_16 : decode prog_11_method_6_code 16 = .ok (.invokevirtual 98, 3) := by decide +kernel
theorem d_SW_addFrame_19 : decode prog_11_method_6_code 19 = .ok (.aload_n 0, 1) := by decide +kernel
theorem d_SW_addFrame_20 : decode prog_11_method_6_code 20 = .ok (.getfield 29, 3) := by decide +kernel
theorem d_SW_addFrame_23 : decode prog_11_method_6_code 23 = .ok (.aload_n 0, 1) := by decide +kernel
theorem d_SW_addFrame_24 : decode prog_11_method_6_code 24 = .ok (.getfield 25, 3) := by decide +kernel
theorem d_SW_addFrame_27 : decode prog_11_method_6_code 27 = .ok (.getfield 106, 3) := by decide +kernel
theorem d_SW_addFrame_30 : decode prog_11_method_6_code 30 = .ok (.invokevirtual 75, 3) := by decide +kernel
theorem d_SW_addFrame_33 : decode prog_11_method_6_code 33 = .ok (.aload_n 0, 1) := by decide +kernel
theorem d_SW_addFrame_34 : decode prog_11_method_6_code 34 = .ok (.getfield 29, 3) := by decide +kernel
theorem d_SW_addFrame_37 : decode prog_11_method_6_code 37 = .ok (.aload_n 0, 1) := by decide +kernel
theorem d_SW_addFrame_38 : decode prog_11_method_6_code 38 = .ok (.getfield 25, 3) := by decide +kernel
theorem d_SW_addFrame_41 : decode prog_11_method_6_code 41 = .ok (.getfield 108, 3) := by decide +kernel
theorem d_SW_addFrame_44 : decode prog_11_method_6_code 44 = .ok (.invokevirtual 78, 3) := by decide +kernel
theorem d_SW_addFrame_47 : decode prog_11_method_6_code 47 = .ok (.aload_n 0, 1) := by decide +kernel
theorem d_SW_addFrame_48 : decode prog_11_method_6_code 48 = .ok (.getfield 29, 3) := by decide +kernel
theorem d_SW_addFrame_51 : decode prog_11_method_6_code 51 = .ok (.aload_n 0, 1) := by decide +kernel
theorem d_SW_addFrame_52 : decode prog_11_method_6_code 52 = .ok (.getfield 25, 3) := by decide +kernel
theorem d_SW_addFrame_55 : decode prog_11_method_6_code 55 = .ok (.getfield 111, 3) := by decide +kernel
theorem d_SW_addFrame_58 : decode prog_11_method_6_code 58 = .ok (.invokevirtual 78, 3) := by decide +kernel
theorem d_SW_addFrame_61 : decode prog_11_method_6_code 61 = .ok (.aload_n 0, 1) := by decide +kernel
theorem d_SW_addFrame_62 : decode prog_11_method_6_code 62 = .ok (.getfield 29, 3) := by decide +kernel
theorem d_SW_addFrame_65 : decode prog_11_method_6_code 65 = .ok (.aload_n 0, 1) := by decide +kernel
theorem d_SW_addFrame_66 : decode prog_11_method_6_code 66 = .ok (.getfield 25, 3) := by decide +kernel
theorem d_SW_addFrame_69 : decode prog_11_method_6_code 69 = .ok (.getfield 65, 3) := by decide +kernel
theorem d_SW_addFrame_72 : decode prog_11_method_6_code 72 = .ok (.invokevirtual 75, 3) := by decide +kernel
theorem d_SW_addFrame_75 : decode prog_11_method_6_code 75 = .ok (.iconst 0, 1) := by decide +kernel
theorem d_SW_addFrame_76 : decode prog_11_method_6_code 76 = .ok (.istore_n 1, 1) := by decide +kernel
theorem d_SW_addFrame_77 : decode prog_11_method_6_code 77 = .ok (.iload_n 1, 1) := by decide +kernel
theorem d_SW_addFrame_78 : decode prog_11_method_6_code 78 = .ok (.aload_n 0, 1) := by decide +kernel
theorem d_SW_addFrame_79 : decode prog_11_method_6_code 79 = .ok (.getfield 25, 3) := by decide +kernel
theorem d_SW_addFrame_82 : decode prog_11_method_6_code 82 = .ok (.getfield 65, 3) := by decide +kernel
theorem d_SW_addFrame_85 : decode prog_11_method_6_code 85 = .ok (.if_icmp .ge 36, 3) := by decide +kernel
theorem d_SW_addFrame_88 : decode prog_11_method_6_code 88 = .ok (.aload_n 0, 1) := by decide +kernel
theorem d_SW_addFrame_89 : decode prog_11_method_6_code 89 = .ok (.getfield 29, 3) := by decide +kernel
theorem d_SW_addFrame_92 : decode prog_11_method_6_code 92 = .ok (.iload_n 1, 1) := by decide +kernel
theorem d_SW_addFrame_93 : decode prog_11_method_6_code 93 = .ok (.iconst 1, 1) := by decide +kernel
theorem d_SW_addFrame_94 : decode prog_11_method_6_code 94 = .ok (.iadd, 1) := by decide +kernel
theorem d_SW_addFrame_95 : decode prog_11_method_6_code 95 = .ok (.invokevirtual 75, 3) := by decide +kernel
theorem d_SW_addFrame_98 : decode prog_11_method_6_code 98 = .ok (.aload_n 0, 1) := by decide +kernel
theorem d_SW_addFrame_99 : decode prog_11_method_6_code 99 = .ok (.getfield 29, 3) := by decide +kernel
theorem d_SW_addFrame_102 : decode prog_11_method_6_code 102 = .ok (.bipush 17, 2) := by decide +kernel
theorem d_SW_addFrame_104 : decode prog_11_method_6_code 104 = .ok (.invokevirtual 75, 3) := by decide +kernel
theorem d_SW_addFrame_107 : decode prog_11_method_6_code 107 = .ok (.aload_n 0, 1) := by decide +kernel
theorem d_SW_addFrame_108 : decode prog_11_method_6_code 108 = .ok (.getfield 29, 3) := by decide +kernel
theorem d_SW_addFrame_111 : decode prog_11_method_6_code 111 = .ok (.iconst 0, 1) := by decide +kernel
theorem d_SW_addFrame_112 : decode prog_11_method_6_code 112 = .ok (.invokevirtual 75, 3) := by decide +kernel
theorem d_SW_addFrame_115 : decode prog_11_method_6_code 115 = .ok (.iinc 1 1, 3) := by decide +kernel
theorem d_SW_addFrame_118 : decode prog_11_method_6_code 118 = .ok (.goto (-41), 3) := by decide +kernel
theorem d_SW_addFrame_121 : decode prog_11_method_6_code 121 = .ok (.return_, 1) := by decide +kernel
def L_SW_addFrame_77 (r0 : Nat) : Nat → Int32 → Mem →  Option (Int32 × Mem)
  | 0, _, _ => none
  | n + 1, a1, σ =>
  if (σ (wtg r0 0) 8) ≤ a1 then
  some (a1, σ)
  else
  lt (f_BY_add (wtg r0 1) (a1 + (1 : Int32)) σ) fun σ7 =>
  lt (f_BY_add (wtg r0 1) (17 : Int32) σ7) fun σ8 =>
  lt (f_BY_add (wtg r0 1) (0 : Int32) σ8) fun σ9 =>
  L_SW_addFrame_77 r0 n (a1 + (1 : Int32)) σ9
def f_SW_addFrame (k0 : Nat) (σ : Mem) : Option (Mem) :=
  lt (f_SW_segment k0 (247 : Int32) ((8 : Int32) + ((3 : Int32) * (σ (wtg k0 0) 8))) σ) fun σ1 =>
  lt (f_BY_add (wtg k0 1) (σ1 (wtg k0 0) 7) σ1) fun σ2 =>
  lt (f_BY_addWide (wtg k0 1) (σ2 (wtg k0 0) 6) σ2) fun σ3 =>
  lt (f_BY_addWide (wtg k0 1) (σ3 (wtg k0 0) 5) σ3) fun σ4 =>
  lt (f_BY_add (wtg k0 1) (σ4 (wtg k0 0) 8) σ4) fun σ5 =>
  (L_SW_addFrame_77 k0 9999 (0 : Int32) σ5).bind fun q10 =>
  some (q10.2)
set_option maxHeartbeats 4000000 in
set_option maxRecDepth 100000 in
theorem wL_SW_addFrame_77 {F : Fx} (C : Ctx F prog_11_method_6_code 2 "LineFrames$StreamWriter" none 3 64) {cv : Option (Int32 × Mem) → Option Rs} (h0 : cv none = none) (r0 : Nat) (hr0 : Is r0 10) (hex : ∀ q : Int32 × Mem, J F 2 cv (some q) q.2 121 [(0, .ref (fad F r0)), (1, .int q.1)] []) : ∀ (n : Nat) (a1 : Int32) (σ : Mem), J F 2 cv (L_SW_addFrame_77 r0 n a1 σ) σ 77 [(0, .ref (fad F r0)), (1, .int a1)] [] := by
  intro n
  induction n with
  | zero => intro a1 σ hE; rw [L_SW_addFrame_77, h0] at hE; cases hE
  | succ n ih =>
    intro a1 σ
    rw [L_SW_addFrame_77]
    refine j_iload_n C d_SW_addFrame_77 1 rfl ?_
    refine j_aload_n C d_SW_addFrame_78 0 rfl ?_
    refine j_getR C hr0 fl_SW_25 rfl d_SW_addFrame_79 ?_
    refine j_getI C (tg_10_0 _ hr0) fl_SW_65 rfl d_SW_addFrame_82 ?_
    refine j_icmp_ge (tgt := 121) C d_SW_addFrame_85 (by decide) (fun c6 => ?_) (fun c6 => ?_)
    · exact hex (a1, σ)
    · refine j_aload_n C d_SW_addFrame_88 0 rfl ?_
      refine j_getR C hr0 fl_SW_29 rfl d_SW_addFrame_89 ?_
      refine j_iload_n C d_SW_addFrame_92 1 rfl ?_
      refine j_iconst (v := (1 : Int32)) C d_SW_addFrame_93 (by decide) ?_
      refine j_iadd C d_SW_addFrame_94 ?_
      refine j_callVv C mv_SW_75 [.int (a1 + (1 : Int32))] [] (tg_10_1 _ hr0) (c_BY_add (tg_10_1 _ hr0) (a1 + (1 : Int32)) σ) rfl rfl (by decide) (Nat.le_of_ble_eq_true rfl) d_SW_addFrame_95 ?_
      refine j_genM (fun σ7 => ?_)
      refine j_aload_n C d_SW_addFrame_98 0 rfl ?_
      refine j_getR C hr0 fl_SW_29 rfl d_SW_addFrame_99 ?_
      refine j_bipush (v := (17 : Int32)) C d_SW_addFrame_102 (by decide) ?_
      refine j_callVv C mv_SW_75 [.int (17 : Int32)] [] (tg_10_1 _ hr0) (c_BY_add (tg_10_1 _ hr0) (17 : Int32) σ7) rfl rfl (by decide) (Nat.le_of_ble_eq_true rfl) d_SW_addFrame_104 ?_
      refine j_genM (fun σ8 => ?_)
      refine j_aload_n C d_SW_addFrame_107 0 rfl ?_
      refine j_getR C hr0 fl_SW_29 rfl d_SW_addFrame_108 ?_
      refine j_iconst (v := (0 : Int32)) C d_SW_addFrame_111 (by decide) ?_
      refine j_callVv C mv_SW_75 [.int (0 : Int32)] [] (tg_10_1 _ hr0) (c_BY_add (tg_10_1 _ hr0) (0 : Int32) σ8) rfl rfl (by decide) (Nat.le_of_ble_eq_true rfl) d_SW_addFrame_112 ?_
      refine j_genM (fun σ9 => ?_)
      refine j_iinc (v := (a1 + (1 : Int32))) (lv9 := [(0, .ref (fad F r0)), (1, .int (a1 + (1 : Int32)))]) C d_SW_addFrame_115 1 rfl rfl rfl rfl (by decide) ?_
      refine j_goto (tgt := 77) C d_SW_addFrame_118 (by decide) ?_
      exact ih (a1 + (1 : Int32)) σ9
set_option maxHeartbeats 4000000 in
set_option maxRecDepth 100000 in
theorem w_SW_addFrame {F : Fx} (C : Ctx F prog_11_method_6_code 2 "LineFrames$StreamWriter" none 3 64) {k0 : Nat} (h0k : Is k0 10) (σ : Mem) : J F 2 (cvO cvM) (f_SW_addFrame k0 σ) σ 0 [(0, .ref (fad F k0))] [] := by
  unfold f_SW_addFrame
  refine j_aload_n C d_SW_addFrame_0 0 rfl ?_
  refine j_sipush (v := (247 : Int32)) C d_SW_addFrame_1 (by decide) ?_
  refine j_bipush (v := (8 : Int32)) C d_SW_addFrame_4 (by decide) ?_
  refine j_iconst (v := (3 : Int32)) C d_SW_addFrame_6 (by decide) ?_
  refine j_aload_n C d_SW_addFrame_7 0 rfl ?_
  refine j_getR C h0k fl_SW_25 rfl d_SW_addFrame_8 ?_
  refine j_getI C (tg_10_0 _ h0k) fl_SW_65 rfl d_SW_addFrame_11 ?_
  refine j_imul C d_SW_addFrame_14 ?_
  refine j_iadd C d_SW_addFrame_15 ?_
  refine j_callVv C mv_SW_98 [.int (247 : Int32), .int ((8 : Int32) + ((3 : Int32) * (σ (wtg k0 0) 8)))] [] h0k (c_SW_segment h0k (247 : Int32) ((8 : Int32) + ((3 : Int32) * (σ (wtg k0 0) 8))) σ) rfl rfl (by decide) (Nat.le_of_ble_eq_true rfl) d_SW_addFrame_16 ?_
  refine j_genM (fun σ1 => ?_)
  refine j_aload_n C d_SW_addFrame_19 0 rfl ?_
  refine j_getR C h0k fl_SW_29 rfl d_SW_addFrame_20 ?_
  refine j_aload_n C d_SW_addFrame_23 0 rfl ?_
  refine j_getR C h0k fl_SW_25 rfl d_SW_addFrame_24 ?_
  refine j_getI C (tg_10_0 _ h0k) fl_SW_106 rfl d_SW_addFrame_27 ?_
  refine j_callVv C mv_SW_75 [.int (σ1 (wtg k0 0) 7)] [] (tg_10_1 _ h0k) (c_BY_add (tg_10_1 _ h0k) (σ1 (wtg k0 0) 7) σ1) rfl rfl (by decide) (Nat.le_of_ble_eq_true rfl) d_SW_addFrame_30 ?_
  refine j_genM (fun σ2 => ?_)
  refine j_aload_n C d_SW_addFrame_33 0 rfl ?_
  refine j_getR C h0k fl_SW_29 rfl d_SW_addFrame_34 ?_
  refine j_aload_n C d_SW_addFrame_37 0 rfl ?_
  refine j_getR C h0k fl_SW_25 rfl d_SW_addFrame_38 ?_
  refine j_getI C (tg_10_0 _ h0k) fl_SW_108 rfl d_SW_addFrame_41 ?_
  refine j_callVv C mv_SW_78 [.int (σ2 (wtg k0 0) 6)] [] (tg_10_1 _ h0k) (c_BY_addWide (tg_10_1 _ h0k) (σ2 (wtg k0 0) 6) σ2) rfl rfl (by decide) (Nat.le_of_ble_eq_true rfl) d_SW_addFrame_44 ?_
  refine j_genM (fun σ3 => ?_)
  refine j_aload_n C d_SW_addFrame_47 0 rfl ?_
  refine j_getR C h0k fl_SW_29 rfl d_SW_addFrame_48 ?_
  refine j_aload_n C d_SW_addFrame_51 0 rfl ?_
  refine j_getR C h0k fl_SW_25 rfl d_SW_addFrame_52 ?_
  refine j_getI C (tg_10_0 _ h0k) fl_SW_111 rfl d_SW_addFrame_55 ?_
  refine j_callVv C mv_SW_78 [.int (σ3 (wtg k0 0) 5)] [] (tg_10_1 _ h0k) (c_BY_addWide (tg_10_1 _ h0k) (σ3 (wtg k0 0) 5) σ3) rfl rfl (by decide) (Nat.le_of_ble_eq_true rfl) d_SW_addFrame_58 ?_
  refine j_genM (fun σ4 => ?_)
  refine j_aload_n C d_SW_addFrame_61 0 rfl ?_
  refine j_getR C h0k fl_SW_29 rfl d_SW_addFrame_62 ?_
  refine j_aload_n C d_SW_addFrame_65 0 rfl ?_
  refine j_getR C h0k fl_SW_25 rfl d_SW_addFrame_66 ?_
  refine j_getI C (tg_10_0 _ h0k) fl_SW_65 rfl d_SW_addFrame_69 ?_
  refine j_callVv C mv_SW_75 [.int (σ4 (wtg k0 0) 8)] [] (tg_10_1 _ h0k) (c_BY_add (tg_10_1 _ h0k) (σ4 (wtg k0 0) 8) σ4) rfl rfl (by decide) (Nat.le_of_ble_eq_true rfl) d_SW_addFrame_72 ?_
  refine j_genM (fun σ5 => ?_)
  refine j_iconst (v := (0 : Int32)) C d_SW_addFrame_75 (by decide) ?_
  refine j_istore_n (lv9 := [(0, .ref (fad F k0)), (1, .int (0 : Int32))]) C d_SW_addFrame_76 rfl rfl (by decide) ?_
  refine j_loop (wL_SW_addFrame_77 C rfl k0 h0k (fun q10 => j_some ?_) 9999 (0 : Int32) σ5)
  exact j_vret C (fun ρ h => leaf_eq h) d_SW_addFrame_121
theorem c_SW_addFrame {l : Launch} {D : va_G} {G : GC} {ad : Nat → Nat} {k0 : Nat} (h0k : Is k0 10) (σ : Mem) {q : Mem} (hq : f_SW_addFrame k0 σ = some q) : Ctr l D G ad ⟨"LineFrames$StreamWriter", "addFrame", "()V"⟩ prog_11_method_6_code 2 none 3 64 [.ref (ad k0)] σ (.inl none, q) := ctr_J (cv := (cvO cvM)) (E := f_SW_addFrame k0 σ) (by decide +kernel) (Nat.le_of_ble_eq_true rfl) (by rw [hq]; rfl) (fun F h C => by subst h; exact w_SW_addFrame C h0k σ)
/-! LineFrames$StreamWriter addPresets ()V -/
theorem d_SW_addPresets_0 : decode prog_11_method_7_code 0 = .ok (.aload_n 0, 1) := by decide +kernel
theorem d_SW_addPresets_1 : decode prog_11_method_7_code 1 = .ok (.getfield 25, 3) := by decide +kernel
theorem d_SW_addPresets_4 : decode prog_11_method_7_code 4 = .ok (.getfield 114, 3) := by decide +kernel
theorem d_SW_addPresets_7 : decode prog_11_method_7_code 7 = .ok (.iconst 0, 1) := by decide +kernel
theorem d_SW_addPresets_8 : decode prog_11_method_7_code 8 = .ok (.invokevirtual 118, 3) := by decide +kernel
theorem d_SW_addPresets_11 : decode prog_11_method_7_code 11 = .ok (.istore_n 1, 1) := by decide +kernel
theorem d_SW_addPresets_12 : decode prog_11_method_7_code 12 = .ok (.aload_n 0, 1) := by decide +kernel
theorem d_SW_addPresets_13 : decode prog_11_method_7_code 13 = .ok (.getfield 25, 3) := by decide +kernel
theorem d_SW_addPresets_16 : decode prog_11_method_7_code 16 = .ok (.getfield 114, 3) := by decide +kernel
theorem d_SW_addPresets_19 : decode prog_11_method_7_code 19 = .ok (.iconst 1, 1) := by decide +kernel
theorem d_SW_addPresets_20 : decode prog_11_method_7_code 20 = .ok (.invokevirtual 118, 3) := by decide +kernel
theorem d_SW_addPresets_23 : decode prog_11_method_7_code 23 = .ok (.istore_n 2, 1) := by decide +kernel
theorem d_SW_addPresets_24 : decode prog_11_method_7_code 24 = .ok (.iload_n 1, 1) := by decide +kernel
theorem d_SW_addPresets_25 : decode prog_11_method_7_code 25 = .ok (.bipush 64, 2) := by decide +kernel
theorem d_SW_addPresets_27 : decode prog_11_method_7_code 27 = .ok (.if_icmp .ne 8, 3) := by decide +kernel
theorem d_SW_addPresets_30 : decode prog_11_method_7_code 30 = .ok (.iload_n 2, 1) := by decide +kernel
theorem d_SW_addPresets_31 : decode prog_11_method_7_code 31 = .ok (.iconst 4, 1) := by decide +kernel
theorem d_SW_addPresets_32 : decode prog_11_method_7_code 32 = .ok (.if_icmp .eq 35, 3) := by decide +kernel
theorem d_SW_addPresets_35 : decode prog_11_method_7_code 35 = .ok (.aload_n 0, 1) := by decide +kernel
theorem d_SW_addPresets_36 : decode prog_11_method_7_code 36 = .ok (.sipush 248, 3) := by decide +kernel
theorem d_SW_addPresets_39 : decode prog_11_method_7_code 39 = .ok (.iconst 5, 1) := by decide +kernel
theorem d_SW_addPresets_40 : decode prog_11_method_7_code 40 = .ok (.invokevirtual 98, 3) := by decide +kernel
theorem d_SW_addPresets_43 : decode prog_11_method_7_code 43 = .ok (.aload_n 0, 1) := by decide +kernel
theorem d_SW_addPresets_44 : decode prog_11_method_7_code 44 = .ok (.getfield 29, 3) := by decide +kernel
theorem d_SW_addPresets_47 : decode prog_11_method_7_code 47 = .ok (.iconst 1, 1) := by decide +kernel
theorem d_SW_addPresets_48 : decode prog_11_method_7_code 48 = .ok (.invokevirtual 75, 3) := by decide +kernel
theorem d_SW_addPresets_51 : decode prog_11_method_7_code 51 = .ok (.aload_n 0, 1) := by decide +kernel
theorem d_SW_addPresets_52 : decode prog_11_method_7_code 52 = .ok (.getfield 29, 3) := by decide +kernel
theorem d_SW_addPresets_55 : decode prog_11_method_7_code 55 = .ok (.iload_n 1, 1) := by decide +kernel
theorem d_SW_addPresets_56 : decode prog_11_method_7_code 56 = .ok (.invokevirtual 75, 3) := by decide +kernel
theorem d_SW_addPresets_59 : decode prog_11_method_7_code 59 = .ok (.aload_n 0, 1) := by decide +kernel
theorem d_SW_addPresets_60 : decode prog_11_method_7_code 60 = .ok (.getfield 29, 3) := by decide +kernel
theorem d_SW_addPresets_63 : decode prog_11_method_7_code 63 = .ok (.iload_n 2, 1) := by decide +kernel
theorem d_SW_addPresets_64 : decode prog_11_method_7_code 64 = .ok (.invokevirtual 75, 3) := by decide +kernel
theorem d_SW_addPresets_67 : decode prog_11_method_7_code 67 = .ok (.return_, 1) := by decide +kernel
def f_SW_addPresets (k0 : Nat) (σ : Mem) : Mem :=
  lt (f_RO_get (wtg (wtg k0 0) 1) (0 : Int32) σ) fun v1 =>
  lt (f_RO_get (wtg (wtg k0 0) 1) (1 : Int32) σ) fun v2 =>
  lt (
  lt (f_SW_segment k0 (248 : Int32) (5 : Int32) σ) fun σ40 =>
  lt (f_BY_add (wtg k0 1) (1 : Int32) σ40) fun σ41 =>
  lt (f_BY_add (wtg k0 1) v1 σ41) fun σ42 =>
  lt (f_BY_add (wtg k0 1) v2 σ42) fun σ43 =>
  σ43) fun K38 =>
  if v1 = (64 : Int32) then
  if v2 = (4 : Int32) then
  σ
  else
  K38
  else
  K38
set_option maxHeartbeats 4000000 in
set_option maxRecDepth 100000 in
theorem w_SW_addPresets {F : Fx} (C : Ctx F prog_11_method_7_code 3 "LineFrames$StreamWriter" none 3 64) {k0 : Nat} (h0k : Is k0 10) (σ : Mem) : J F 3 cvM (f_SW_addPresets k0 σ) σ 0 [(0, .ref (fad F k0))] [] := by
  unfold f_SW_addPresets
  refine j_aload_n C d_SW_addPresets_0 0 rfl ?_
  refine j_getR C h0k fl_SW_25 rfl d_SW_addPresets_1 ?_
  refine j_getR C (tg_10_0 _ h0k) fl_SW_114 rfl d_SW_addPresets_4 ?_
  refine j_iconst (v := (0 : Int32)) C d_SW_addPresets_7 (by decide) ?_
  refine j_callVi C mv_SW_118 [.int (0 : Int32)] [] (tg_7_1 _ (tg_10_0 _ h0k)) (c_RO_get (tg_7_1 _ (tg_10_0 _ h0k)) (0 : Int32) σ) rfl rfl (by decide) (Nat.le_of_ble_eq_true rfl) d_SW_addPresets_8 ?_
  refine j_nm (fun v1 v1_e => ?_)
  refine j_istore_n (lv9 := [(0, .ref (fad F k0)), (1, .int v1)]) C d_SW_addPresets_11 rfl rfl (by decide) ?_
  refine j_aload_n C d_SW_addPresets_12 0 rfl ?_
  refine j_getR C h0k fl_SW_25 rfl d_SW_addPresets_13 ?_
  refine j_getR C (tg_10_0 _ h0k) fl_SW_114 rfl d_SW_addPresets_16 ?_
  refine j_iconst (v := (1 : Int32)) C d_SW_addPresets_19 (by decide) ?_
  refine j_callVi C mv_SW_118 [.int (1 : Int32)] [] (tg_7_1 _ (tg_10_0 _ h0k)) (c_RO_get (tg_7_1 _ (tg_10_0 _ h0k)) (1 : Int32) σ) rfl rfl (by decide) (Nat.le_of_ble_eq_true rfl) d_SW_addPresets_20 ?_
  refine j_nm (fun v2 v2_e => ?_)
  refine j_istore_n (lv9 := [(0, .ref (fad F k0)), (1, .int v1), (2, .int v2)]) C d_SW_addPresets_23 rfl rfl (by decide) ?_
  refine j_iload_n C d_SW_addPresets_24 1 rfl ?_
  refine j_bipush (v := (64 : Int32)) C d_SW_addPresets_25 (by decide) ?_
  refine j_join0 35 ([(0, .ref (fad F k0)), (1, .int v1), (2, .int v2)]) ([]) (?_) (fun K38 H39 => ?_)
  · refine j_aload_n C d_SW_addPresets_35 0 rfl ?_
    refine j_sipush (v := (248 : Int32)) C d_SW_addPresets_36 (by decide) ?_
    refine j_iconst (v := (5 : Int32)) C d_SW_addPresets_39 (by decide) ?_
    refine j_callVv C mv_SW_98 [.int (248 : Int32), .int (5 : Int32)] [] h0k (c_SW_segment h0k (248 : Int32) (5 : Int32) σ) rfl rfl (by decide) (Nat.le_of_ble_eq_true rfl) d_SW_addPresets_40 ?_
    refine j_genM (fun σ40 => ?_)
    refine j_aload_n C d_SW_addPresets_43 0 rfl ?_
    refine j_getR C h0k fl_SW_29 rfl d_SW_addPresets_44 ?_
    refine j_iconst (v := (1 : Int32)) C d_SW_addPresets_47 (by decide) ?_
    refine j_callVv C mv_SW_75 [.int (1 : Int32)] [] (tg_10_1 _ h0k) (c_BY_add (tg_10_1 _ h0k) (1 : Int32) σ40) rfl rfl (by decide) (Nat.le_of_ble_eq_true rfl) d_SW_addPresets_48 ?_
    refine j_genM (fun σ41 => ?_)
    refine j_aload_n C d_SW_addPresets_51 0 rfl ?_
    refine j_getR C h0k fl_SW_29 rfl d_SW_addPresets_52 ?_
    refine j_iload_n C d_SW_addPresets_55 1 rfl ?_
    refine j_callVv C mv_SW_75 [.int v1] [] (tg_10_1 _ h0k) (c_BY_add (tg_10_1 _ h0k) v1 σ41) rfl rfl (by decide) (Nat.le_of_ble_eq_true rfl) d_SW_addPresets_56 ?_
    refine j_genM (fun σ42 => ?_)
    refine j_aload_n C d_SW_addPresets_59 0 rfl ?_
    refine j_getR C h0k fl_SW_29 rfl d_SW_addPresets_60 ?_
    refine j_iload_n C d_SW_addPresets_63 2 rfl ?_
    refine j_callVv C mv_SW_75 [.int v2] [] (tg_10_1 _ h0k) (c_BY_add (tg_10_1 _ h0k) v2 σ42) rfl rfl (by decide) (Nat.le_of_ble_eq_true rfl) d_SW_addPresets_64 ?_
    refine j_genM (fun σ43 => ?_)
    exact j_vret C (fun ρ h => leaf_eq h) d_SW_addPresets_67
  · refine j_icmp_ne (tgt := 35) C d_SW_addPresets_27 (by decide) (fun c44 => ?_) (fun c44 => ?_)
    · exact H39
    · refine j_iload_n C d_SW_addPresets_30 2 rfl ?_
      refine j_iconst (v := (4 : Int32)) C d_SW_addPresets_31 (by decide) ?_
      refine j_icmp_eq (tgt := 67) C d_SW_addPresets_32 (by decide) (fun c45 => ?_) (fun c45 => ?_)
      · exact j_vret C (fun ρ h => leaf_eq h) d_SW_addPresets_67
      · exact H39
theorem c_SW_addPresets {l : Launch} {D : va_G} {G : GC} {ad : Nat → Nat} {k0 : Nat} (h0k : Is k0 10) (σ : Mem) : Ctr l D G ad ⟨"LineFrames$StreamWriter", "addPresets", "()V"⟩ prog_11_method_7_code 3 none 3 64 [.ref (ad k0)] σ (.inl none, (f_SW_addPresets k0 σ)) := ctr_J (cv := cvM) (E := f_SW_addPresets k0 σ) (by decide +kernel) (Nat.le_of_ble_eq_true rfl) rfl (fun F h C => by subst h; exact w_SW_addPresets C h0k σ)
/-! LineFrames$StreamWriter addTables ()V -/
theorem d_SW_addTables_0 : decode prog_11_method_8_code 0 = .ok (.aload_n 0, 1) := by decide +kernel
theorem d_SW_addTables_1 : decode prog_11_method_8_code 1 = .ok (.getfield 25, 3) := by decide +kernel
theorem d_SW_addTables_4 : decode prog_11_method_8_code 4 = .ok (.invokevirtual 121, 3) := by decide +kernel
theorem d_SW_addTables_7 : decode prog_11_method_8_code 7 = .ok (.iconst 1, 1) := by decide +kernel
theorem d_SW_addTables_8 : decode prog_11_method_8_code 8 = .ok (.iadd, 1) := by decide +kernel
theorem d_SW_addTables_9 : decode prog_11_method_8_code 9 = .ok (.istore_n 1, 1) := by decide +kernel
theorem d_SW_addTables_10 : decode prog_11_method_8_code 10 = .ok (.iconst 0, 1) := by decide +kernel
theorem d_SW_addTables_11 : decode prog_11_method_8_code 11 = .ok (.istore_n 2, 1) := by decide +kernel
theorem d_SW_addTables_12 : decode prog_11_method_8_code 12 = .ok (.iload_n 2, 1) := by decide +kernel
theorem d_SW_addTables_13 : decode prog_11_method_8_code 13 = .ok (.aload_n 0, 1) := by decide +kernel
theorem d_SW_addTables_14 : decode prog_11_method_8_code 14 = .ok (.getfield 25, 3) := by decide +kernel
theorem d_SW_addTables_17 : decode prog_11_method_8_code 17 = .ok (.getfield 65, 3) := by decide +kernel
theorem d_SW_addTables_20 : decode prog_11_method_8_code 20 = .ok (.if_icmp .ge 87, 3) := by decide +kernel
theorem d_SW_addTables_23 : decode prog_11_method_8_code 23 = .ok (.aload_n 0, 1) := by decide +kernel
theorem d_SW_addTables_24 : decode prog_11_method_8_code 24 = .ok (.getfield 25, 3) := by decide +kernel
theorem d_SW_addTables_27 : decode prog_11_method_8_code 27 = .ok (.iload_n 2, 1) := by decide +kernel
theorem d_SW_addTables_28 : decode prog_11_method_8_code 28 = .ok (.invokevirtual 124, 3) := by decide +kernel
theorem d_SW_addTables_31 : decode prog_11_method_8_code 31 = .ok (.ifCond .eq 70, 3) := by decide +kernel
theorem d_SW_addTables_34 : decode prog_11_method_8_code 34 = .ok (.aload_n 0, 1) := by decide +kernel
theorem d_SW_addTables_35 : decode prog_11_method_8_code 35 = .ok (.sipush 248, 3) := by decide +kernel
theorem d_SW_addTables_38 : decode prog_11_method_8_code 38 = .ok (.iconst 5, 1) := by decide +kernel
theorem d_SW_addTables_39 : decode prog_11_method_8_code 39 = .ok (.iconst 2, 1) := by decide +kernel
theorem d_SW_addTables_40 : decode prog_11_method_8_code 40 = .ok (.iload_n 1, 1) := by decide +kernel
theorem d_SW_addTables_41 : decode prog_11_method_8_code 41 = .ok (.imul, 1) := by decide +kernel
theorem d_SW_addTables_42 : decode prog_11_method_8_code 42 = .ok (.iadd, 1) := by decide +kernel
theorem d_SW_addTables_43 : decode prog_11_method_8_code 43 = .ok (.invokevirtual 98, 3) := by decide +kernel
theorem d_SW_addTables_46 : decode prog_11_method_8_code 46 = .ok (.aload_n 0, 1) := by decide +kernel
theorem d_SW_addTables_47 : decode prog_11_method_8_code 47 = .ok (.getfield 29, 3) := by decide +kernel
theorem d_SW_addTables_50 : decode prog_11_method_8_code 50 = .ok (.iconst 2, 1) := by decide +kernel
theorem d_SW_addTables_51 : decode prog_11_method_8_code 51 = .ok (.invokevirtual 75, 3) := by decide +kernel
theorem d_SW_addTables_54 : decode prog_11_method_8_code 54 = .ok (.aload_n 0, 1) := by decide +kernel
theorem d_SW_addTables_55 : decode prog_11_method_8_code 55 = .ok (.getfield 29, 3) := by decide +kernel
theorem d_SW_addTables_58 : decode prog_11_method_8_code 58 = .ok (.iload_n 2, 1) := by decide +kernel
theorem d_SW_addTables_59 : decode prog_11_method_8_code 59 = .ok (.iconst 1, 1) := by decide +kernel
theorem d_SW_addTables_60 : decode prog_11_method_8_code 60 = .ok (.iadd, 1) := by decide +kernel
theorem d_SW_addTables_61 : decode prog_11_method_8_code 61 = .ok (.invokevirtual 75, 3) := by decide +kernel
theorem d_SW_addTables_64 : decode prog_11_method_8_code 64 = .ok (.aload_n 0, 1) := by decide +kernel
theorem d_SW_addTables_65 : decode prog_11_method_8_code 65 = .ok (.getfield 29, 3) := by decide +kernel
theorem d_SW_addTables_68 : decode prog_11_method_8_code 68 = .ok (.iconst 2, 1) := by decide +kernel
theorem d_SW_addTables_69 : decode prog_11_method_8_code 69 = .ok (.invokevirtual 75, 3) := by decide +kernel
theorem d_SW_addTables_72 : decode prog_11_method_8_code 72 = .ok (.iconst 0, 1) := by decide +kernel
theorem d_SW_addTables_73 : decode prog_11_method_8_code 73 = .ok (.istore_n 3, 1) := by decide +kernel
theorem d_SW_addTables_74 : decode prog_11_method_8_code 74 = .ok (.iload_n 3, 1) := by decide +kernel
theorem d_SW_addTables_75 : decode prog_11_method_8_code 75 = .ok (.iload_n 1, 1) := by decide +kernel
theorem d_SW_addTables_76 : decode prog_11_method_8_code 76 = .ok (.if_icmp .ge 25, 3) := by decide +kernel
theorem d_SW_addTables_79 : decode prog_11_method_8_code 79 = .ok (.aload_n 0, 1) := by decide +kernel
theorem d_SW_addTables_80 : decode prog_11_method_8_code 80 = .ok (.getfield 29, 3) := by decide +kernel
theorem d_SW_addTables_83 : decode prog_11_method_8_code 83 = .ok (.aload_n 0, 1) := by decide +kernel
theorem d_SW_addTables_84 : decode prog_11_method_8_code 84 = .ok (.getfield 25, 3) := by decide +kernel
theorem d_SW_addTables_87 : decode prog_11_method_8_code 87 = .ok (.iload_n 2, 1) := by decide +kernel
theorem d_SW_addTables_88 : decode prog_11_method_8_code 88 = .ok (.iload_n 3, 1) := by decide +kernel
theorem d_SW_addTables_89 : decode prog_11_method_8_code 89 = .ok (.invokevirtual 128, 3) := by decide +kernel
theorem d_SW_addTables_92 : decode prog_11_method_8_code 92 = .ok (.invokevirtual 78, 3) := by decide +kernel
theorem d_SW_addTables_95 : decode prog_11_method_8_code 95 = .ok (.iinc 3 1, 3) := by decide +kernel
theorem d_SW_addTables_98 : decode prog_11_method_8_code 98 = .ok (.goto (-24), 3) := by decide +kernel
theorem d_SW_addTables_101 : decode prog_11_method_8_code 101 = .ok (.iinc 2 1, 3) := by decide +kernel
theorem d_SW_addTables_104 : decode prog_11_method_8_code 104 = .ok (.goto (-92), 3) := by decide +kernel
theorem d_SW_addTables_107 : decode prog_11_method_8_code 107 = .ok (.return_, 1) := by decide +kernel
def L_SW_addTables_74 (r0 : Nat) (b1 : Int32) (b2 : Int32) : Nat → Int32 → Mem →  Option (Int32 × Mem)
  | 0, _, _ => none
  | n + 1, a3, σ =>
  if b1 ≤ a3 then
  some (a3, σ)
  else
  lt (f_BY_addWide (wtg r0 1) (f_PI_numberOf (wtg r0 0) b2 a3 σ) σ) fun σ16 =>
  L_SW_addTables_74 r0 b1 b2 n (a3 + (1 : Int32)) σ16
def L_SW_addTables_12 (r0 : Nat) (b1 : Int32) : Nat → Int32 → Mem →  Option (Int32 × Mem)
  | 0, _, _ => none
  | n + 1, a2, σ =>
  if (σ (wtg r0 0) 8) ≤ a2 then
  some (a2, σ)
  else
  lt (fun  (σ7 : Mem) => 
  L_SW_addTables_12 r0 b1 n (a2 + (1 : Int32)) σ7) fun K8 =>
  if (f_PI_hasTable (wtg r0 0) a2 σ) = 0 then
  K8 σ
  else
  lt (f_SW_segment r0 (248 : Int32) ((5 : Int32) + ((2 : Int32) * b1)) σ) fun σ11 =>
  lt (f_BY_add (wtg r0 1) (2 : Int32) σ11) fun σ12 =>
  lt (f_BY_add (wtg r0 1) (a2 + (1 : Int32)) σ12) fun σ13 =>
  lt (f_BY_add (wtg r0 1) (2 : Int32) σ13) fun σ14 =>
  (L_SW_addTables_74 r0 b1 a2 9999 (0 : Int32) σ14).bind fun q17 =>
  K8 q17.2
def f_SW_addTables (k0 : Nat) (σ : Mem) : Option (Mem) :=
  (L_SW_addTables_12 k0 ((f_PI_top (wtg k0 0) σ) + (1 : Int32)) 9999 (0 : Int32) σ).bind fun q18 =>
  some (q18.2)
set_option maxHeartbeats 4000000 in
set_option maxRecDepth 100000 in
theorem wL_SW_addTables_74 {F : Fx} (C : Ctx F prog_11_method_8_code 4 "LineFrames$StreamWriter" none 3 64) {cv : Option (Int32 × Mem) → Option Rs} (h0 : cv none = none) (r0 : Nat) (hr0 : Is r0 10) (b1 : Int32) (b2 : Int32) (hex : ∀ q : Int32 × Mem, J F 4 cv (some q) q.2 101 [(0, .ref (fad F r0)), (1, .int b1), (2, .int b2), (3, .int q.1)] []) : ∀ (n : Nat) (a3 : Int32) (σ : Mem), J F 4 cv (L_SW_addTables_74 r0 b1 b2 n a3 σ) σ 74 [(0, .ref (fad F r0)), (1, .int b1), (2, .int b2), (3, .int a3)] [] := by
  intro n
  induction n with
  | zero => intro a3 σ hE; rw [L_SW_addTables_74, h0] at hE; cases hE
  | succ n ih =>
    intro a3 σ
    rw [L_SW_addTables_74]
    refine j_iload_n C d_SW_addTables_74 3 rfl ?_
    refine j_iload_n C d_SW_addTables_75 1 rfl ?_
    refine j_icmp_ge (tgt := 101) C d_SW_addTables_76 (by decide) (fun c15 => ?_) (fun c15 => ?_)
    · exact hex (a3, σ)
    · refine j_aload_n C d_SW_addTables_79 0 rfl ?_
      refine j_getR C hr0 fl_SW_29 rfl d_SW_addTables_80 ?_
      refine j_aload_n C d_SW_addTables_83 0 rfl ?_
      refine j_getR C hr0 fl_SW_25 rfl d_SW_addTables_84 ?_
      refine j_iload_n C d_SW_addTables_87 2 rfl ?_
      refine j_iload_n C d_SW_addTables_88 3 rfl ?_
      refine j_callVi C mv_SW_128 [.int b2, .int a3] [.ref (fad F (wtg r0 1))] (tg_10_0 _ hr0) (c_PI_numberOf (tg_10_0 _ hr0) b2 a3 σ) rfl rfl (by decide) (Nat.le_of_ble_eq_true rfl) d_SW_addTables_89 ?_
      refine j_callVv C mv_SW_78 [.int (f_PI_numberOf (wtg r0 0) b2 a3 σ)] [] (tg_10_1 _ hr0) (c_BY_addWide (tg_10_1 _ hr0) (f_PI_numberOf (wtg r0 0) b2 a3 σ) σ) rfl rfl (by decide) (Nat.le_of_ble_eq_true rfl) d_SW_addTables_92 ?_
      refine j_genM (fun σ16 => ?_)
      refine j_iinc (v := (a3 + (1 : Int32))) (lv9 := [(0, .ref (fad F r0)), (1, .int b1), (2, .int b2), (3, .int (a3 + (1 : Int32)))]) C d_SW_addTables_95 3 rfl rfl rfl rfl (by decide) ?_
      refine j_goto (tgt := 74) C d_SW_addTables_98 (by decide) ?_
      exact ih (a3 + (1 : Int32)) σ16
set_option maxHeartbeats 4000000 in
set_option maxRecDepth 100000 in
theorem wL_SW_addTables_12 {F : Fx} (C : Ctx F prog_11_method_8_code 4 "LineFrames$StreamWriter" none 3 64) {cv : Option (Int32 × Mem) → Option Rs} (h0 : cv none = none) (r0 : Nat) (hr0 : Is r0 10) (b1 : Int32) (hex : ∀ q : Int32 × Mem, J F 4 cv (some q) q.2 107 [(0, .ref (fad F r0)), (1, .int b1), (2, .int q.1)] []) : ∀ (n : Nat) (a2 : Int32) (σ : Mem), J F 4 cv (L_SW_addTables_12 r0 b1 n a2 σ) σ 12 [(0, .ref (fad F r0)), (1, .int b1), (2, .int a2)] [] := by
  intro n
  induction n with
  | zero => intro a2 σ hE; rw [L_SW_addTables_12, h0] at hE; cases hE
  | succ n ih =>
    intro a2 σ
    rw [L_SW_addTables_12]
    refine j_iload_n C d_SW_addTables_12 2 rfl ?_
    refine j_aload_n C d_SW_addTables_13 0 rfl ?_
    refine j_getR C hr0 fl_SW_25 rfl d_SW_addTables_14 ?_
    refine j_getI C (tg_10_0 _ hr0) fl_SW_65 rfl d_SW_addTables_17 ?_
    refine j_icmp_ge (tgt := 107) C d_SW_addTables_20 (by decide) (fun c1 => ?_) (fun c1 => ?_)
    · exact hex (a2, σ)
    · refine j_aload_n C d_SW_addTables_23 0 rfl ?_
      refine j_getR C hr0 fl_SW_25 rfl d_SW_addTables_24 ?_
      refine j_iload_n C d_SW_addTables_27 2 rfl ?_
      refine j_callVi C mv_SW_124 [.int a2] [] (tg_10_0 _ hr0) (c_PI_hasTable (tg_10_0 _ hr0) a2 σ) rfl rfl (by decide) (Nat.le_of_ble_eq_true rfl) d_SW_addTables_28 ?_
      refine j_join0m 101 (fun _ => [(0, .ref (fad F r0)), (1, .int b1), (2, .int a2)]) (fun _ => []) (fun σ7 => ?_) (fun K8 H9 => ?_)
      · refine j_iinc (v := (a2 + (1 : Int32))) (lv9 := [(0, .ref (fad F r0)), (1, .int b1), (2, .int (a2 + (1 : Int32)))]) C d_SW_addTables_101 2 rfl rfl rfl rfl (by decide) ?_
        refine j_goto (tgt := 12) C d_SW_addTables_104 (by decide) ?_
        exact ih (a2 + (1 : Int32)) σ7
      · refine j_if_eq (tgt := 101) C d_SW_addTables_31 (by decide) (fun c10 => ?_) (fun c10 => ?_)
        · exact H9 σ
        · refine j_aload_n C d_SW_addTables_34 0 rfl ?_
          refine j_sipush (v := (248 : Int32)) C d_SW_addTables_35 (by decide) ?_
          refine j_iconst (v := (5 : Int32)) C d_SW_addTables_38 (by decide) ?_
          refine j_iconst (v := (2 : Int32)) C d_SW_addTables_39 (by decide) ?_
          refine j_iload_n C d_SW_addTables_40 1 rfl ?_
          refine j_imul C d_SW_addTables_41 ?_
          refine j_iadd C d_SW_addTables_42 ?_
          refine j_callVv C mv_SW_98 [.int (248 : Int32), .int ((5 : Int32) + ((2 : Int32) * b1))] [] hr0 (c_SW_segment hr0 (248 : Int32) ((5 : Int32) + ((2 : Int32) * b1)) σ) rfl rfl (by decide) (Nat.le_of_ble_eq_true rfl) d_SW_addTables_43 ?_
          refine j_genM (fun σ11 => ?_)
          refine j_aload_n C d_SW_addTables_46 0 rfl ?_
          refine j_getR C hr0 fl_SW_29 rfl d_SW_addTables_47 ?_
          refine j_iconst (v := (2 : Int32)) C d_SW_addTables_50 (by decide) ?_
          refine j_callVv C mv_SW_75 [.int (2 : Int32)] [] (tg_10_1 _ hr0) (c_BY_add (tg_10_1 _ hr0) (2 : Int32) σ11) rfl rfl (by decide) (Nat.le_of_ble_eq_true rfl) d_SW_addTables_51 ?_
          refine j_genM (fun σ12 => ?_)
          refine j_aload_n C d_SW_addTables_54 0 rfl ?_
          refine j_getR C hr0 fl_SW_29 rfl d_SW_addTables_55 ?_
          refine j_iload_n C d_SW_addTables_58 2 rfl ?_
          refine j_iconst (v := (1 : Int32)) C d_SW_addTables_59 (by decide) ?_
          refine j_iadd C d_SW_addTables_60 ?_
          refine j_callVv C mv_SW_75 [.int (a2 + (1 : Int32))] [] (tg_10_1 _ hr0) (c_BY_add (tg_10_1 _ hr0) (a2 + (1 : Int32)) σ12) rfl rfl (by decide) (Nat.le_of_ble_eq_true rfl) d_SW_addTables_61 ?_
          refine j_genM (fun σ13 => ?_)
          refine j_aload_n C d_SW_addTables_64 0 rfl ?_
          refine j_getR C hr0 fl_SW_29 rfl d_SW_addTables_65 ?_
          refine j_iconst (v := (2 : Int32)) C d_SW_addTables_68 (by decide) ?_
          refine j_callVv C mv_SW_75 [.int (2 : Int32)] [] (tg_10_1 _ hr0) (c_BY_add (tg_10_1 _ hr0) (2 : Int32) σ13) rfl rfl (by decide) (Nat.le_of_ble_eq_true rfl) d_SW_addTables_69 ?_
          refine j_genM (fun σ14 => ?_)
          refine j_iconst (v := (0 : Int32)) C d_SW_addTables_72 (by decide) ?_
          refine j_istore_n (lv9 := [(0, .ref (fad F r0)), (1, .int b1), (2, .int a2), (3, .int (0 : Int32))]) C d_SW_addTables_73 rfl rfl (by decide) ?_
          refine j_loop (wL_SW_addTables_74 C (by exact h0) r0 hr0 b1 a2 (fun q17 => j_some ?_) 9999 (0 : Int32) σ14)
          refine j_sub (lv9 := [(0, .ref (fad F r0)), (1, .int b1), (2, .int a2)]) [0, 1, 2] rfl ?_
          exact H9 q17.2
set_option maxHeartbeats 4000000 in
set_option maxRecDepth 100000 in
theorem w_SW_addTables {F : Fx} (C : Ctx F prog_11_method_8_code 4 "LineFrames$StreamWriter" none 3 64) {k0 : Nat} (h0k : Is k0 10) (σ : Mem) : J F 4 (cvO cvM) (f_SW_addTables k0 σ) σ 0 [(0, .ref (fad F k0))] [] := by
  unfold f_SW_addTables
  refine j_aload_n C d_SW_addTables_0 0 rfl ?_
  refine j_getR C h0k fl_SW_25 rfl d_SW_addTables_1 ?_
  refine j_callVi C mv_SW_121 [] [] (tg_10_0 _ h0k) (c_PI_top (tg_10_0 _ h0k) σ) rfl rfl (by decide) (Nat.le_of_ble_eq_true rfl) d_SW_addTables_4 ?_
  refine j_iconst (v := (1 : Int32)) C d_SW_addTables_7 (by decide) ?_
  refine j_iadd C d_SW_addTables_8 ?_
  refine j_istore_n (lv9 := [(0, .ref (fad F k0)), (1, .int ((f_PI_top (wtg k0 0) σ) + (1 : Int32)))]) C d_SW_addTables_9 rfl rfl (by decide) ?_
  refine j_iconst (v := (0 : Int32)) C d_SW_addTables_10 (by decide) ?_
  refine j_istore_n (lv9 := [(0, .ref (fad F k0)), (1, .int ((f_PI_top (wtg k0 0) σ) + (1 : Int32))), (2, .int (0 : Int32))]) C d_SW_addTables_11 rfl rfl (by decide) ?_
  refine j_loop (wL_SW_addTables_12 C rfl k0 h0k ((f_PI_top (wtg k0 0) σ) + (1 : Int32)) (fun q18 => j_some ?_) 9999 (0 : Int32) σ)
  exact j_vret C (fun ρ h => leaf_eq h) d_SW_addTables_107
theorem c_SW_addTables {l : Launch} {D : va_G} {G : GC} {ad : Nat → Nat} {k0 : Nat} (h0k : Is k0 10) (σ : Mem) {q : Mem} (hq : f_SW_addTables k0 σ = some q) : Ctr l D G ad ⟨"LineFrames$StreamWriter", "addTables", "()V"⟩ prog_11_method_8_code 4 none 3 64 [.ref (ad k0)] σ (.inl none, q) := ctr_J (cv := (cvO cvM)) (E := f_SW_addTables k0 σ) (by decide +kernel) (Nat.le_of_ble_eq_true rfl) (by rw [hq]; rfl) (fun F h C => by subst h; exact w_SW_addTables C h0k σ)
/-! LineFrames$StreamWriter addRestarts ()V -/
theorem d_SW_addRestarts_0 : decode prog_11_method_9_code 0 = .ok (.aload_n 0, 1) := by decide +kernel
theorem d_SW_addRestarts_1 : decode prog_11_method_9_code 1 = .ok (.getfield 25, 3) := by decide +kernel
theorem d_SW_addRestarts_4 : decode prog_11_method_9_code 4 = .ok (.getfield 114, 3) := by decide +kernel
theorem d_SW_addRestarts_7 : decode prog_11_method_9_code 7 = .ok (.iconst 2, 1) := by decide +kernel
theorem d_SW_addRestarts_8 : decode prog_11_method_9_code 8 = .ok (.invokevirtual 118, 3) := by decide +kernel
theorem d_SW_addRestarts_11 : decode prog_11_method_9_code 11 = .ok (.istore_n 1, 1) := by decide +kernel
theorem d_SW_addRestarts_12 : decode prog_11_method_9_code 12 = .ok (.iload_n 1, 1) := by decide +kernel
theorem d_SW_addRestarts_13 : decode prog_11_method_9_code 13 = .ok (.ifCond .eq 19, 3) := by decide +kernel
theorem d_SW_addRestarts_16 : decode prog_11_method_9_code 16 = .ok (.aload_n 0, 1) := by decide +kernel
theorem d_SW_addRestarts_17 : decode prog_11_method_9_code 17 = .ok (.sipush 221, 3) := by decide +kernel
theorem d_SW_addRestarts_20 : decode prog_11_method_9_code 20 = .ok (.iconst 4, 1) := by decide +kernel
theorem d_SW_addRestarts_21 : decode prog_11_method_9_code 21 = .ok (.invokevirtual 98, 3) := by decide +kernel
theorem d_SW_addRestarts_24 : decode prog_11_method_9_code 24 = .ok (.aload_n 0, 1) := by decide +kernel
theorem d_SW_addRestarts_25 : decode prog_11_method_9_code 25 = .ok (.getfield 29, 3) := by decide +kernel
theorem d_SW_addRestarts_28 : decode prog_11_method_9_code 28 = .ok (.iload_n 1, 1) := by decide +kernel
theorem d_SW_addRestarts_29 : decode prog_11_method_9_code 29 = .ok (.invokevirtual 78, 3) := by decide +kernel
theorem d_SW_addRestarts_32 : decode prog_11_method_9_code 32 = .ok (.return_, 1) := by decide +kernel
def f_SW_addRestarts (k0 : Nat) (σ : Mem) : Mem :=
  lt (f_RO_get (wtg (wtg k0 0) 1) (2 : Int32) σ) fun v1 =>
  if v1 = 0 then
  σ
  else
  lt (f_SW_segment k0 (221 : Int32) (4 : Int32) σ) fun σ5 =>
  lt (f_BY_addWide (wtg k0 1) v1 σ5) fun σ6 =>
  σ6
set_option maxHeartbeats 4000000 in
set_option maxRecDepth 100000 in
theorem w_SW_addRestarts {F : Fx} (C : Ctx F prog_11_method_9_code 2 "LineFrames$StreamWriter" none 3 64) {k0 : Nat} (h0k : Is k0 10) (σ : Mem) : J F 2 cvM (f_SW_addRestarts k0 σ) σ 0 [(0, .ref (fad F k0))] [] := by
  unfold f_SW_addRestarts
  refine j_aload_n C d_SW_addRestarts_0 0 rfl ?_
  refine j_getR C h0k fl_SW_25 rfl d_SW_addRestarts_1 ?_
  refine j_getR C (tg_10_0 _ h0k) fl_SW_114 rfl d_SW_addRestarts_4 ?_
  refine j_iconst (v := (2 : Int32)) C d_SW_addRestarts_7 (by decide) ?_
  refine j_callVi C mv_SW_118 [.int (2 : Int32)] [] (tg_7_1 _ (tg_10_0 _ h0k)) (c_RO_get (tg_7_1 _ (tg_10_0 _ h0k)) (2 : Int32) σ) rfl rfl (by decide) (Nat.le_of_ble_eq_true rfl) d_SW_addRestarts_8 ?_
  refine j_nm (fun v1 v1_e => ?_)
  refine j_istore_n (lv9 := [(0, .ref (fad F k0)), (1, .int v1)]) C d_SW_addRestarts_11 rfl rfl (by decide) ?_
  refine j_iload_n C d_SW_addRestarts_12 1 rfl ?_
  refine j_if_eq (tgt := 32) C d_SW_addRestarts_13 (by decide) (fun c4 => ?_) (fun c4 => ?_)
  · exact j_vret C (fun ρ h => leaf_eq h) d_SW_addRestarts_32
  · refine j_aload_n C d_SW_addRestarts_16 0 rfl ?_
    refine j_sipush (v := (221 : Int32)) C d_SW_addRestarts_17 (by decide) ?_
    refine j_iconst (v := (4 : Int32)) C d_SW_addRestarts_20 (by decide) ?_
    refine j_callVv C mv_SW_98 [.int (221 : Int32), .int (4 : Int32)] [] h0k (c_SW_segment h0k (221 : Int32) (4 : Int32) σ) rfl rfl (by decide) (Nat.le_of_ble_eq_true rfl) d_SW_addRestarts_21 ?_
    refine j_genM (fun σ5 => ?_)
    refine j_aload_n C d_SW_addRestarts_24 0 rfl ?_
    refine j_getR C h0k fl_SW_29 rfl d_SW_addRestarts_25 ?_
    refine j_iload_n C d_SW_addRestarts_28 1 rfl ?_
    refine j_callVv C mv_SW_78 [.int v1] [] (tg_10_1 _ h0k) (c_BY_addWide (tg_10_1 _ h0k) v1 σ5) rfl rfl (by decide) (Nat.le_of_ble_eq_true rfl) d_SW_addRestarts_29 ?_
    refine j_genM (fun σ6 => ?_)
    exact j_vret C (fun ρ h => leaf_eq h) d_SW_addRestarts_32
theorem c_SW_addRestarts {l : Launch} {D : va_G} {G : GC} {ad : Nat → Nat} {k0 : Nat} (h0k : Is k0 10) (σ : Mem) : Ctr l D G ad ⟨"LineFrames$StreamWriter", "addRestarts", "()V"⟩ prog_11_method_9_code 2 none 3 64 [.ref (ad k0)] σ (.inl none, (f_SW_addRestarts k0 σ)) := ctr_J (cv := cvM) (E := f_SW_addRestarts k0 σ) (by decide +kernel) (Nat.le_of_ble_eq_true rfl) rfl (fun F h C => by subst h; exact w_SW_addRestarts C h0k σ)
/-! LineFrames$StreamWriter addScanHead (IIII)V -/
theorem d_SW_addScanHead_0 : decode prog_11_method_11_code 0 = .ok (.aload_n 0, 1) := by decide +kernel
theorem d_SW_addScanHead_1 : decode prog_11_method_11_code 1 = .ok (.sipush 218, 3) := by decide +kernel
theorem d_SW_addScanHead_4 : decode prog_11_method_11_code 4 = .ok (.bipush 6, 2) := by decide +kernel
theorem d_SW_addScanHead_6 : decode prog_11_method_11_code 6 = .ok (.iconst 2, 1) := by decide +kernel
theorem d_SW_addScanHead_7 : decode prog_11_method_11_code 7 = .ok (.iload_n 2, 1) := by decide +kernel
theorem d_SW_addScanHead_8 : decode prog_11_method_11_code 8 = .ok (.imul, 1) := by decide +kernel
theorem d_SW_addScanHead_9 : decode prog_11_method_11_code 9 = .ok (.iadd, 1) := by decide +kernel
theorem d_SW_addScanHead_10 : decode prog_11_method_11_code 10 = .ok (.invokevirtual 98, 3) := by decide +kernel
theorem d_SW_addScanHead_13 : decode prog_11_method_11_code 13 = .ok (.aload_n 0, 1) := by decide +kernel
theorem d_SW_addScanHead_14 : decode prog_11_method_11_code 14 = .ok (.getfield 29, 3) := by decide +kernel
theorem d_SW_addScanHead_17 : decode prog_11_method_11_code 17 = .ok (.iload_n 2, 1) := by decide +kernel
theorem d_SW_addScanHead_18 : decode prog_11_method_11_code 18 = .ok (.invokevirtual 75, 3) := by decide +kernel
theorem d_SW_addScanHead_21 : decode prog_11_method_11_code 21 = .ok (.iload_n 1, 1) := by decide +kernel
theorem d_SW_addScanHead_22 : decode prog_11_method_11_code 22 = .ok (.istore 5, 2) := by decide +kernel
theorem d_SW_addScanHead_24 : decode prog_11_method_11_code 24 = .ok (.iload 5, 2) := by decide +kernel
theorem d_SW_addScanHead_26 : decode prog_11_method_11_code 26 = .ok (.iload_n 1, 1) := by decide +kernel
theorem d_SW_addScanHead_27 : decode prog_11_method_11_code 27 = .ok (.iload_n 2, 1) := by decide +kernel
theorem d_SW_addScanHead_28 : decode prog_11_method_11_code 28 = .ok (.iadd, 1) := by decide +kernel
theorem d_SW_addScanHead_29 : decode prog_11_method_11_code 29 = .ok (.if_icmp .ge 47, 3) := by decide +kernel
theorem d_SW_addScanHead_32 : decode prog_11_method_11_code 32 = .ok (.aload_n 0, 1) := by decide +kernel
theorem d_SW_addScanHead_33 : decode prog_11_method_11_code 33 = .ok (.getfield 29, 3) := by decide +kernel
theorem d_SW_addScanHead_36 : decode prog_11_method_11_code 36 = .ok (.iload 5, 2) := by decide +kernel
theorem d_SW_addScanHead_38 : decode prog_11_method_11_code 38 = .ok (.iconst 1, 1) := by decide +kernel
theorem d_SW_addScanHead_39 : decode prog_11_method_11_code 39 = .ok (.iadd, 1) := by decide +kernel
theorem d_SW_addScanHead_40 : decode prog_11_method_11_code 40 = .ok (.invokevirtual 75, 3) := by decide +kernel
theorem d_SW_addScanHead_43 : decode prog_11_method_11_code 43 = .ok (.aload_n 0, 1) := by decide +kernel
theorem d_SW_addScanHead_44 : decode prog_11_method_11_code 44 = .ok (.getfield 29, 3) := by decide +kernel
theorem d_SW_addScanHead_47 : decode prog_11_method_11_code 47 = .ok (.aload_n 0, 1) := by decide +kernel
theorem d_SW_addScanHead_48 : decode prog_11_method_11_code 48 = .ok (.getfield 25, 3) := by decide +kernel
theorem d_SW_addScanHead_51 : decode prog_11_method_11_code 51 = .ok (.iload 5, 2) := by decide +kernel
theorem d_SW_addScanHead_53 : decode prog_11_method_11_code 53 = .ok (.invokevirtual 124, 3) := by decide +kernel
theorem d_SW_addScanHead_56 : decode prog_11_method_11_code 56 = .ok (.ifCond .eq 10, 3) := by decide +kernel
theorem d_SW_addScanHead_59 : decode prog_11_method_11_code 59 = .ok (.iload 5, 2) := by decide +kernel
theorem d_SW_addScanHead_61 : decode prog_11_method_11_code 61 = .ok (.iconst 1, 1) := by decide +kernel
theorem d_SW_addScanHead_62 : decode prog_11_method_11_code 62 = .ok (.iadd, 1) := by decide +kernel
theorem d_SW_addScanHead_63 : decode prog_11_method_11_code 63 = .ok (.goto 4, 3) := by decide +kernel
theorem d_SW_addScanHead_66 : decode prog_11_method_11_code 66 = .ok (.iconst 0, 1) := by decide +kernel
theorem d_SW_addScanHead_67 : decode prog_11_method_11_code 67 = .ok (.invokevirtual 75, 3) := by decide +kernel
theorem d_SW_addScanHead_70 : decode prog_11_method_11_code 70 = .ok (.iinc 5 1, 3) := by decide +kernel
theorem d_SW_addScanHead_73 : decode prog_11_method_11_code 73 = .ok (.goto (-49), 3) := by decide +kernel
theorem d_SW_addScanHead_76 : decode prog_11_method_11_code 76 = .ok (.aload_n 0, 1) := by decide +kernel
theorem d_SW_addScanHead_77 : decode prog_11_method_11_code 77 = .ok (.getfield 29, 3) := by decide +kernel
theorem d_SW_addScanHead_80 : decode prog_11_method_11_code 80 = .ok (.iload_n 3, 1) := by decide +kernel
theorem d_SW_addScanHead_81 : decode prog_11_method_11_code 81 = .ok (.invokevirtual 75, 3) := by decide +kernel
theorem d_SW_addScanHead_84 : decode prog_11_method_11_code 84 = .ok (.aload_n 0, 1) := by decide +kernel
theorem d_SW_addScanHead_85 : decode prog_11_method_11_code 85 = .ok (.getfield 29, 3) := by decide +kernel
theorem d_SW_addScanHead_88 : decode prog_11_method_11_code 88 = .ok (.iload 4, 2) := by decide +kernel
theorem d_SW_addScanHead_90 : decode prog_11_method_11_code 90 = .ok (.invokevirtual 75, 3) := by decide +kernel
theorem d_SW_addScanHead_93 : decode prog_11_method_11_code 93 = .ok (.aload_n 0, 1) := by decide +kernel
theorem d_SW_addScanHead_94 : decode prog_11_method_11_code 94 = .ok (.getfield 29, 3) := by decide +kernel
theorem d_SW_addScanHead_97 : decode prog_11_method_11_code 97 = .ok (.iconst 0, 1) := by decide +kernel
theorem d_SW_addScanHead_98 : decode prog_11_method_11_code 98 = .ok (.invokevirtual 75, 3) := by decide +kernel
theorem d_SW_addScanHead_101 : decode prog_11_method_11_code 101 = .ok (.return_, 1) := by decide +kernel
def L_SW_addScanHead_24 (r0 : Nat) (b1 : Int32) (b2 : Int32) (b3 : Int32) (b4 : Int32) : Nat → Int32 → Mem →  Option (Int32 × Mem)
  | 0, _, _ => none
  | n + 1, a5, σ =>
  if (b1 + b2) ≤ a5 then
  some (a5, σ)
  else
  lt (f_BY_add (wtg r0 1) (a5 + (1 : Int32)) σ) fun σ4 =>
  lt (f_BY_add (wtg r0 1) (if (f_PI_hasTable (wtg r0 0) a5 σ4) = 0 then (0 : Int32) else (a5 + (1 : Int32))) σ4) fun σ7 =>
  L_SW_addScanHead_24 r0 b1 b2 b3 b4 n (a5 + (1 : Int32)) σ7
def f_SW_addScanHead (k0 : Nat) (x1 : Int32) (x2 : Int32) (x3 : Int32) (x4 : Int32) (σ : Mem) : Option (Mem) :=
  lt (f_SW_segment k0 (218 : Int32) ((6 : Int32) + ((2 : Int32) * x2)) σ) fun σ1 =>
  lt (f_BY_add (wtg k0 1) x2 σ1) fun σ2 =>
  (L_SW_addScanHead_24 k0 x1 x2 x3 x4 9999 x1 σ2).bind fun q8 =>
  lt (f_BY_add (wtg k0 1) x3 q8.2) fun σ9 =>
  lt (f_BY_add (wtg k0 1) x4 σ9) fun σ10 =>
  lt (f_BY_add (wtg k0 1) (0 : Int32) σ10) fun σ11 =>
  some (σ11)
set_option maxHeartbeats 4000000 in
set_option maxRecDepth 100000 in
theorem wL_SW_addScanHead_24 {F : Fx} (C : Ctx F prog_11_method_11_code 6 "LineFrames$StreamWriter" none 3 64) {cv : Option (Int32 × Mem) → Option Rs} (h0 : cv none = none) (r0 : Nat) (hr0 : Is r0 10) (b1 : Int32) (b2 : Int32) (b3 : Int32) (b4 : Int32) (hex : ∀ q : Int32 × Mem, J F 6 cv (some q) q.2 76 [(0, .ref (fad F r0)), (1, .int b1), (2, .int b2), (3, .int b3), (4, .int b4), (5, .int q.1)] []) : ∀ (n : Nat) (a5 : Int32) (σ : Mem), J F 6 cv (L_SW_addScanHead_24 r0 b1 b2 b3 b4 n a5 σ) σ 24 [(0, .ref (fad F r0)), (1, .int b1), (2, .int b2), (3, .int b3), (4, .int b4), (5, .int a5)] [] := by
  intro n
  induction n with
  | zero => intro a5 σ hE; rw [L_SW_addScanHead_24, h0] at hE; cases hE
  | succ n ih =>
    intro a5 σ
    rw [L_SW_addScanHead_24]
    refine j_iload C d_SW_addScanHead_24 5 rfl ?_
    refine j_iload_n C d_SW_addScanHead_26 1 rfl ?_
    refine j_iload_n C d_SW_addScanHead_27 2 rfl ?_
    refine j_iadd C d_SW_addScanHead_28 ?_
    refine j_icmp_ge (tgt := 76) C d_SW_addScanHead_29 (by decide) (fun c3 => ?_) (fun c3 => ?_)
    · exact hex (a5, σ)
    · refine j_aload_n C d_SW_addScanHead_32 0 rfl ?_
      refine j_getR C hr0 fl_SW_29 rfl d_SW_addScanHead_33 ?_
      refine j_iload C d_SW_addScanHead_36 5 rfl ?_
      refine j_iconst (v := (1 : Int32)) C d_SW_addScanHead_38 (by decide) ?_
      refine j_iadd C d_SW_addScanHead_39 ?_
      refine j_callVv C mv_SW_75 [.int (a5 + (1 : Int32))] [] (tg_10_1 _ hr0) (c_BY_add (tg_10_1 _ hr0) (a5 + (1 : Int32)) σ) rfl rfl (by decide) (Nat.le_of_ble_eq_true rfl) d_SW_addScanHead_40 ?_
      refine j_genM (fun σ4 => ?_)
      refine j_aload_n C d_SW_addScanHead_43 0 rfl ?_
      refine j_getR C hr0 fl_SW_29 rfl d_SW_addScanHead_44 ?_
      refine j_aload_n C d_SW_addScanHead_47 0 rfl ?_
      refine j_getR C hr0 fl_SW_25 rfl d_SW_addScanHead_48 ?_
      refine j_iload C d_SW_addScanHead_51 5 rfl ?_
      refine j_callVi C mv_SW_124 [.int a5] [.ref (fad F (wtg r0 1))] (tg_10_0 _ hr0) (c_PI_hasTable (tg_10_0 _ hr0) a5 σ4) rfl rfl (by decide) (Nat.le_of_ble_eq_true rfl) d_SW_addScanHead_53 ?_
      refine d_if_eq (a := (0 : Int32)) (b := (a5 + (1 : Int32))) (jp := 67) (tgt := 66) C d_SW_addScanHead_56 (by decide) (fun c5 k6 => ?_) (fun c5 k6 => ?_) ?_
      · refine j_iconst (v := (0 : Int32)) C d_SW_addScanHead_66 (by decide) ?_
        exact k6
      · refine j_iload C d_SW_addScanHead_59 5 rfl ?_
        refine j_iconst (v := (1 : Int32)) C d_SW_addScanHead_61 (by decide) ?_
        refine j_iadd C d_SW_addScanHead_62 ?_
        refine j_goto (tgt := 67) C d_SW_addScanHead_63 (by decide) ?_
        exact k6
      refine j_callVv C mv_SW_75 [.int (if (f_PI_hasTable (wtg r0 0) a5 σ4) = 0 then (0 : Int32) else (a5 + (1 : Int32)))] [] (tg_10_1 _ hr0) (c_BY_add (tg_10_1 _ hr0) (if (f_PI_hasTable (wtg r0 0) a5 σ4) = 0 then (0 : Int32) else (a5 + (1 : Int32))) σ4) rfl rfl (by decide) (Nat.le_of_ble_eq_true rfl) d_SW_addScanHead_67 ?_
      refine j_genM (fun σ7 => ?_)
      refine j_iinc (v := (a5 + (1 : Int32))) (lv9 := [(0, .ref (fad F r0)), (1, .int b1), (2, .int b2), (3, .int b3), (4, .int b4), (5, .int (a5 + (1 : Int32)))]) C d_SW_addScanHead_70 5 rfl rfl rfl rfl (by decide) ?_
      refine j_goto (tgt := 24) C d_SW_addScanHead_73 (by decide) ?_
      exact ih (a5 + (1 : Int32)) σ7
set_option maxHeartbeats 4000000 in
set_option maxRecDepth 100000 in
theorem w_SW_addScanHead {F : Fx} (C : Ctx F prog_11_method_11_code 6 "LineFrames$StreamWriter" none 3 64) {k0 : Nat} (h0k : Is k0 10) (x1 : Int32) (x2 : Int32) (x3 : Int32) (x4 : Int32) (σ : Mem) : J F 6 (cvO cvM) (f_SW_addScanHead k0 x1 x2 x3 x4 σ) σ 0 [(0, .ref (fad F k0)), (1, .int x1), (2, .int x2), (3, .int x3), (4, .int x4)] [] := by
  unfold f_SW_addScanHead
  refine j_aload_n C d_SW_addScanHead_0 0 rfl ?_
  refine j_sipush (v := (218 : Int32)) C d_SW_addScanHead_1 (by decide) ?_
  refine j_bipush (v := (6 : Int32)) C d_SW_addScanHead_4 (by decide) ?_
  refine j_iconst (v := (2 : Int32)) C d_SW_addScanHead_6 (by decide) ?_
  refine j_iload_n C d_SW_addScanHead_7 2 rfl ?_
  refine j_imul C d_SW_addScanHead_8 ?_
  refine j_iadd C d_SW_addScanHead_9 ?_
  refine j_callVv C mv_SW_98 [.int (218 : Int32), .int ((6 : Int32) + ((2 : Int32) * x2))] [] h0k (c_SW_segment h0k (218 : Int32) ((6 : Int32) + ((2 : Int32) * x2)) σ) rfl rfl (by decide) (Nat.le_of_ble_eq_true rfl) d_SW_addScanHead_10 ?_
  refine j_genM (fun σ1 => ?_)
  refine j_aload_n C d_SW_addScanHead_13 0 rfl ?_
  refine j_getR C h0k fl_SW_29 rfl d_SW_addScanHead_14 ?_
  refine j_iload_n C d_SW_addScanHead_17 2 rfl ?_
  refine j_callVv C mv_SW_75 [.int x2] [] (tg_10_1 _ h0k) (c_BY_add (tg_10_1 _ h0k) x2 σ1) rfl rfl (by decide) (Nat.le_of_ble_eq_true rfl) d_SW_addScanHead_18 ?_
  refine j_genM (fun σ2 => ?_)
  refine j_iload_n C d_SW_addScanHead_21 1 rfl ?_
  refine j_istore (lv9 := [(0, .ref (fad F k0)), (1, .int x1), (2, .int x2), (3, .int x3), (4, .int x4), (5, .int x1)]) C d_SW_addScanHead_22 rfl rfl (by decide) ?_
  refine j_loop (wL_SW_addScanHead_24 C rfl k0 h0k x1 x2 x3 x4 (fun q8 => j_some ?_) 9999 x1 σ2)
  refine j_aload_n C d_SW_addScanHead_76 0 rfl ?_
  refine j_getR C h0k fl_SW_29 rfl d_SW_addScanHead_77 ?_
  refine j_iload_n C d_SW_addScanHead_80 3 rfl ?_
  refine j_callVv C mv_SW_75 [.int x3] [] (tg_10_1 _ h0k) (c_BY_add (tg_10_1 _ h0k) x3 q8.2) rfl rfl (by decide) (Nat.le_of_ble_eq_true rfl) d_SW_addScanHead_81 ?_
  refine j_genM (fun σ9 => ?_)
  refine j_aload_n C d_SW_addScanHead_84 0 rfl ?_
  refine j_getR C h0k fl_SW_29 rfl d_SW_addScanHead_85 ?_
  refine j_iload C d_SW_addScanHead_88 4 rfl ?_
  refine j_callVv C mv_SW_75 [.int x4] [] (tg_10_1 _ h0k) (c_BY_add (tg_10_1 _ h0k) x4 σ9) rfl rfl (by decide) (Nat.le_of_ble_eq_true rfl) d_SW_addScanHead_90 ?_
  refine j_genM (fun σ10 => ?_)
  refine j_aload_n C d_SW_addScanHead_93 0 rfl ?_
  refine j_getR C h0k fl_SW_29 rfl d_SW_addScanHead_94 ?_
  refine j_iconst (v := (0 : Int32)) C d_SW_addScanHead_97 (by decide) ?_
  refine j_callVv C mv_SW_75 [.int (0 : Int32)] [] (tg_10_1 _ h0k) (c_BY_add (tg_10_1 _ h0k) (0 : Int32) σ10) rfl rfl (by decide) (Nat.le_of_ble_eq_true rfl) d_SW_addScanHead_98 ?_
  refine j_genM (fun σ11 => ?_)
  exact j_vret C (fun ρ h => leaf_eq h) d_SW_addScanHead_101
theorem c_SW_addScanHead {l : Launch} {D : va_G} {G : GC} {ad : Nat → Nat} {k0 : Nat} (h0k : Is k0 10) (x1 : Int32) (x2 : Int32) (x3 : Int32) (x4 : Int32) (σ : Mem) {q : Mem} (hq : f_SW_addScanHead k0 x1 x2 x3 x4 σ = some q) : Ctr l D G ad ⟨"LineFrames$StreamWriter", "addScanHead", "(IIII)V"⟩ prog_11_method_11_code 6 none 3 64 [.ref (ad k0), .int x1, .int x2, .int x3, .int x4] σ (.inl none, q) := ctr_J (cv := (cvO cvM)) (E := f_SW_addScanHead k0 x1 x2 x3 x4 σ) (by decide +kernel) (Nat.le_of_ble_eq_true rfl) (by rw [hq]; rfl) (fun F h C => by subst h; exact w_SW_addScanHead C h0k x1 x2 x3 x4 σ)
/-! LineFrames$BitSink close ()V -/
theorem d_BK_close_0 : decode prog_2_method_3_code 0 = .ok (.aload_n 0, 1) := by decide +kernel
theorem d_BK_close_1 : decode prog_2_method_3_code 1 = .ok (.getfield 15, 3) := by decide +kernel
theorem d_BK_close_4 : decode prog_2_method_3_code 4 = .ok (.bipush 8, 2) := by decide +kernel
theorem d_BK_close_6 : decode prog_2_method_3_code 6 = .ok (.if_icmp .ge 19, 3) := by decide +kernel
theorem d_BK_close_9 : decode prog_2_method_3_code 9 = .ok (.aload_n 0, 1) := by decide +kernel
theorem d_BK_close_10 : decode prog_2_method_3_code 10 = .ok (.getfield 18, 3) := by decide +kernel
theorem d_BK_close_13 : decode prog_2_method_3_code 13 = .ok (.aload_n 0, 1) := by decide +kernel
theorem d_BK_close_14 : decode prog_2_method_3_code 14 = .ok (.getfield 9, 3) := by decide +kernel
theorem d_BK_close_17 : decode prog_2_method_3_code 17 = .ok (.aload_n 0, 1) := by decide +kernel
theorem d_BK_close_18 : decode prog_2_method_3_code 18 = .ok (.getfield 15, 3) := by decide +kernel
theorem d_BK_close_21 : decode prog_2_method_3_code 21 = .ok (.ishl, 1) := by decide +kernel
theorem d_BK_close_22 : decode prog_2_method_3_code 22 = .ok (.invokevirtual 26, 3) := by decide +kernel
theorem d_BK_close_25 : decode prog_2_method_3_code 25 = .ok (.aload_n 0, 1) := by decide +kernel
theorem d_BK_close_26 : decode prog_2_method_3_code 26 = .ok (.iconst 0, 1) := by decide +kernel
theorem d_BK_close_27 : decode prog_2_method_3_code 27 = .ok (.putfield 9, 3) := by decide +kernel
theorem d_BK_close_30 : decode prog_2_method_3_code 30 = .ok (.aload_n 0, 1) := by decide +kernel
theorem d_BK_close_31 : decode prog_2_method_3_code 31 = .ok (.bipush 8, 2) := by decide +kernel
theorem d_BK_close_33 : decode prog_2_method_3_code 33 = .ok (.putfield 15, 3) := by decide +kernel
theorem d_BK_close_36 : decode prog_2_method_3_code 36 = .ok (.return_, 1) := by decide +kernel
def f_BK_close (k0 : Nat) (σ : Mem) : Mem :=
  lt (fun  (σ16 : Mem) => 
  lt (mput σ16 k0 1 (0 : Int32)) fun σ19 =>
  lt (mput σ19 k0 2 (8 : Int32)) fun σ20 =>
  σ20) fun K17 =>
  if (8 : Int32) ≤ (σ k0 2) then
  K17 σ
  else
  lt (f_BY_add (wtg k0 0) ((σ k0 1) <<< ((σ k0 2) &&& 31)) σ) fun σ22 =>
  K17 σ22
set_option maxHeartbeats 4000000 in
set_option maxRecDepth 100000 in
theorem w_BK_close {F : Fx} (C : Ctx F prog_2_method_3_code 1 "LineFrames$BitSink" none 1 21) {k0 : Nat} (h0k : Is k0 1) (σ : Mem) : J F 1 cvM (f_BK_close k0 σ) σ 0 [(0, .ref (fad F k0))] [] := by
  unfold f_BK_close
  refine j_aload_n C d_BK_close_0 0 rfl ?_
  refine j_getI C h0k fl_BK_15 rfl d_BK_close_1 ?_
  refine j_bipush (v := (8 : Int32)) C d_BK_close_4 (by decide) ?_
  refine j_join0m 25 (fun _ => [(0, .ref (fad F k0))]) (fun _ => []) (fun σ16 => ?_) (fun K17 H18 => ?_)
  · refine j_aload_n C d_BK_close_25 0 rfl ?_
    refine j_iconst (v := (0 : Int32)) C d_BK_close_26 (by decide) ?_
    refine j_put C h0k fl_BK_9 fw_1_1 rfl rfl rfl d_BK_close_27 (fun σ19 => ?_)
    refine j_aload_n C d_BK_close_30 0 rfl ?_
    refine j_bipush (v := (8 : Int32)) C d_BK_close_31 (by decide) ?_
    refine j_put C h0k fl_BK_15 fw_1_2 rfl rfl rfl d_BK_close_33 (fun σ20 => ?_)
    exact j_vret C (fun ρ h => leaf_eq h) d_BK_close_36
  · refine j_icmp_ge (tgt := 25) C d_BK_close_6 (by decide) (fun c21 => ?_) (fun c21 => ?_)
    · exact H18 σ
    · refine j_aload_n C d_BK_close_9 0 rfl ?_
      refine j_getR C h0k fl_BK_18 rfl d_BK_close_10 ?_
      refine j_aload_n C d_BK_close_13 0 rfl ?_
      refine j_getI C h0k fl_BK_9 rfl d_BK_close_14 ?_
      refine j_aload_n C d_BK_close_17 0 rfl ?_
      refine j_getI C h0k fl_BK_15 rfl d_BK_close_18 ?_
      refine j_ishl C d_BK_close_21 ?_
      refine j_callVv C mv_BK_26 [.int ((σ k0 1) <<< ((σ k0 2) &&& 31))] [] (tg_1_0 _ h0k) (c_BY_add (tg_1_0 _ h0k) ((σ k0 1) <<< ((σ k0 2) &&& 31)) σ) rfl rfl (by decide) (Nat.le_of_ble_eq_true rfl) d_BK_close_22 ?_
      refine j_genM (fun σ22 => ?_)
      exact H18 σ22
theorem c_BK_close {l : Launch} {D : va_G} {G : GC} {ad : Nat → Nat} {k0 : Nat} (h0k : Is k0 1) (σ : Mem) : Ctr l D G ad ⟨"LineFrames$BitSink", "close", "()V"⟩ prog_2_method_3_code 1 none 1 21 [.ref (ad k0)] σ (.inl none, (f_BK_close k0 σ)) := ctr_J (cv := cvM) (E := f_BK_close k0 σ) (by decide +kernel) (Nat.le_of_ble_eq_true rfl) rfl (fun F h C => by subst h; exact w_BK_close C h0k σ)
/-! LineFrames$Model tell (IIII)I -/
theorem d_MD_tell_0 : decode prog_6_method_6_code 0 = .ok (.iload 4, 2) := by decide +kernel
theorem d_MD_tell_2 : decode prog_6_method_6_code 2 = .ok (.iload_n 3, 1) := by decide +kernel
theorem d_MD_tell_3 : decode prog_6_method_6_code 3 = .ok (.isub, 1) := by decide +kernel
theorem d_MD_tell_4 : decode prog_6_method_6_code 4 = .ok (.istore 5, 2) := by decide +kernel
theorem d_MD_tell_6 : decode prog_6_method_6_code 6 = .ok (.iload 5, 2) := by decide +kernel
theorem d_MD_tell_8 : decode prog_6_method_6_code 8 = .ok (.ifCond .le 17, 3) := by decide +kernel
theorem d_MD_tell_11 : decode prog_6_method_6_code 11 = .ok (.aload_n 0, 1) := by decide +kernel
theorem d_MD_tell_12 : decode prog_6_method_6_code 12 = .ok (.iload 5, 2) := by decide +kernel
theorem d_MD_tell_14 : decode prog_6_method_6_code 14 = .ok (.aload_n 0, 1) := by decide +kernel
theorem d_MD_tell_15 : decode prog_6_method_6_code 15 = .ok (.getfield 27, 3) := by decide +kernel
theorem d_MD_tell_18 : decode prog_6_method_6_code 18 = .ok (.iadd, 1) := by decide +kernel
theorem d_MD_tell_19 : decode prog_6_method_6_code 19 = .ok (.invokevirtual 50, 3) := by decide +kernel
theorem d_MD_tell_22 : decode prog_6_method_6_code 22 = .ok (.goto 15, 3) := by decide +kernel
theorem d_MD_tell_25 : decode prog_6_method_6_code 25 = .ok (.aload_n 0, 1) := by decide +kernel
theorem d_MD_tell_26 : decode prog_6_method_6_code 26 = .ok (.aload_n 0, 1) := by decide +kernel
theorem d_MD_tell_27 : decode prog_6_method_6_code 27 = .ok (.getfield 27, 3) := by decide +kernel
theorem d_MD_tell_30 : decode prog_6_method_6_code 30 = .ok (.iload 5, 2) := by decide +kernel
theorem d_MD_tell_32 : decode prog_6_method_6_code 32 = .ok (.isub, 1) := by decide +kernel
theorem d_MD_tell_33 : decode prog_6_method_6_code 33 = .ok (.invokevirtual 50, 3) := by decide +kernel
theorem d_MD_tell_36 : decode prog_6_method_6_code 36 = .ok (.ineg, 1) := by decide +kernel
theorem d_MD_tell_37 : decode prog_6_method_6_code 37 = .ok (.istore 6, 2) := by decide +kernel
theorem d_MD_tell_39 : decode prog_6_method_6_code 39 = .ok (.aload_n 0, 1) := by decide +kernel
theorem d_MD_tell_40 : decode prog_6_method_6_code 40 = .ok (.getfield 42, 3) := by decide +kernel
theorem d_MD_tell_43 : decode prog_6_method_6_code 43 = .ok (.iload_n 2, 1) := by decide +kernel
theorem d_MD_tell_44 : decode prog_6_method_6_code 44 = .ok (.aload_n 0, 1) := by decide +kernel
theorem d_MD_tell_45 : decode prog_6_method_6_code 45 = .ok (.iload_n 3, 1) := by decide +kernel
theorem d_MD_tell_46 : decode prog_6_method_6_code 46 = .ok (.aload_n 0, 1) := by decide +kernel
theorem d_MD_tell_47 : decode prog_6_method_6_code 47 = .ok (.getfield 30, 3) := by decide +kernel
theorem d_MD_tell_50 : decode prog_6_method_6_code 50 = .ok (.iload 6, 2) := by decide +kernel
theorem d_MD_tell_52 : decode prog_6_method_6_code 52 = .ok (.imul, 1) := by decide +kernel
theorem d_MD_tell_53 : decode prog_6_method_6_code 53 = .ok (.iadd, 1) := by decide +kernel
theorem d_MD_tell_54 : decode prog_6_method_6_code 54 = .ok (.invokevirtual 79, 3) := by decide +kernel
theorem d_MD_tell_57 : decode prog_6_method_6_code 57 = .ok (.invokevirtual 82, 3) := by decide +kernel
theorem d_MD_tell_60 : decode prog_6_method_6_code 60 = .ok (.iload 6, 2) := by decide +kernel
theorem d_MD_tell_62 : decode prog_6_method_6_code 62 = .ok (.ifCond .ge 12, 3) := by decide +kernel
theorem d_MD_tell_65 : decode prog_6_method_6_code 65 = .ok (.iload 6, 2) := by decide +kernel
theorem d_MD_tell_67 : decode prog_6_method_6_code 67 = .ok (.aload_n 0, 1) := by decide +kernel
theorem d_MD_tell_68 : decode prog_6_method_6_code 68 = .ok (.getfield 33, 3) := by decide +kernel
theorem d_MD_tell_71 : decode prog_6_method_6_code 71 = .ok (.iadd, 1) := by decide +kernel
theorem d_MD_tell_72 : decode prog_6_method_6_code 72 = .ok (.istore 6, 2) := by decide +kernel
theorem d_MD_tell_74 : decode prog_6_method_6_code 74 = .ok (.iload 6, 2) := by decide +kernel
theorem d_MD_tell_76 : decode prog_6_method_6_code 76 = .ok (.aload_n 0, 1) := by decide +kernel
theorem d_MD_tell_77 : decode prog_6_method_6_code 77 = .ok (.getfield 33, 3) := by decide +kernel
theorem d_MD_tell_80 : decode prog_6_method_6_code 80 = .ok (.iconst 1, 1) := by decide +kernel
theorem d_MD_tell_81 : decode prog_6_method_6_code 81 = .ok (.iadd, 1) := by decide +kernel
theorem d_MD_tell_82 : decode prog_6_method_6_code 82 = .ok (.iconst 2, 1) := by decide +kernel
theorem d_MD_tell_83 : decode prog_6_method_6_code 83 = .ok (.idiv, 1) := by decide +kernel
theorem d_MD_tell_84 : decode prog_6_method_6_code 84 = .ok (.if_icmp .lt 12, 3) := by decide +kernel
theorem d_MD_tell_87 : decode prog_6_method_6_code 87 = .ok (.iload 6, 2) := by decide +kernel
theorem d_MD_tell_89 : decode prog_6_method_6_code 89 = .ok (.aload_n 0, 1) := by decide +kernel
theorem d_MD_tell_90 : decode prog_6_method_6_code 90 = .ok (.getfield 33, 3) := by decide +kernel
theorem d_MD_tell_93 : decode prog_6_method_6_code 93 = .ok (.isub, 1) := by decide +kernel
theorem d_MD_tell_94 : decode prog_6_method_6_code 94 = .ok (.istore 6, 2) := by decide +kernel
theorem d_MD_tell_96 : decode prog_6_method_6_code 96 = .ok (.aload_n 0, 1) := by decide +kernel
theorem d_MD_tell_97 : decode prog_6_method_6_code 97 = .ok (.iload_n 1, 1) := by decide +kernel
theorem d_MD_tell_98 : decode prog_6_method_6_code 98 = .ok (.iload 6, 2) := by decide +kernel
theorem d_MD_tell_100 : decode prog_6_method_6_code 100 = .ok (.invokevirtual 86, 3) := by decide +kernel
theorem d_MD_tell_103 : decode prog_6_method_6_code 103 = .ok (.iload 6, 2) := by decide +kernel
theorem d_MD_tell_105 : decode prog_6_method_6_code 105 = .ok (.ifCond .ge 13, 3) := by decide +kernel
theorem d_MD_tell_108 : decode prog_6_method_6_code 108 = .ok (.bipush (-2), 2) := by decide +kernel
theorem d_MD_tell_110 : decode prog_6_method_6_code 110 = .ok (.iload 6, 2) := by decide +kernel
theorem d_MD_tell_112 : decode prog_6_method_6_code 112 = .ok (.imul, 1) := by decide +kernel
theorem d_MD_tell_113 : decode prog_6_method_6_code 113 = .ok (.iconst 1, 1) := by decide +kernel
theorem d_MD_tell_114 : decode prog_6_method_6_code 114 = .ok (.isub, 1) := by decide +kernel
theorem d_MD_tell_115 : decode prog_6_method_6_code 115 = .ok (.goto 7, 3) := by decide +kernel
theorem d_MD_tell_118 : decode prog_6_method_6_code 118 = .ok (.iconst 2, 1) := by decide +kernel
theorem d_MD_tell_119 : decode prog_6_method_6_code 119 = .ok (.iload 6, 2) := by decide +kernel
theorem d_MD_tell_121 : decode prog_6_method_6_code 121 = .ok (.imul, 1) := by decide +kernel
theorem d_MD_tell_122 : decode prog_6_method_6_code 122 = .ok (.ireturn, 1) := by decide +kernel
def f_MD_tell (k0 : Nat) (x1 : Int32) (x2 : Int32) (x3 : Int32) (x4 : Int32) (σ : Mem) : Int32 × Mem :=
  lt (if (x4 - x3) ≤ 0 then (-(f_MD_steps k0 ((σ k0 4) - (x4 - x3)) σ)) else (f_MD_steps k0 ((x4 - x3) + (σ k0 4)) σ)) fun v3 =>
  lt (f_RO_set (wtg k0 0) x2 (f_MD_toSample k0 (x3 + ((σ k0 5) * v3)) σ) σ) fun σ4 =>
  lt (fun (y106 : Int32) => 
  lt (fun (y142 : Int32) => 
  lt (f_MD_learn k0 x1 y142 σ4) fun σ145 =>
  ((if 0 ≤ y142 then ((2 : Int32) * y142) else (((-2 : Int32) * y142) - (1 : Int32))), σ145)) fun K143 =>
  if y106 < (((σ4 k0 6) + (1 : Int32)) / (2 : Int32)) then
  K143 y106
  else
  K143 (y106 - (σ4 k0 6))) fun K107 =>
  if 0 ≤ v3 then
  K107 v3
  else
  K107 (v3 + (σ4 k0 6))
set_option maxHeartbeats 4000000 in
set_option maxRecDepth 100000 in
theorem w_MD_tell {F : Fx} (C : Ctx F prog_6_method_6_code 7 "LineFrames$Model" (some .int) 2 46) {k0 : Nat} (h0k : Is k0 5) (x1 : Int32) (x2 : Int32) (x3 : Int32) (x4 : Int32) (σ : Mem) : J F 7 cvIM (f_MD_tell k0 x1 x2 x3 x4 σ) σ 0 [(0, .ref (fad F k0)), (1, .int x1), (2, .int x2), (3, .int x3), (4, .int x4)] [] := by
  unfold f_MD_tell
  refine j_iload C d_MD_tell_0 4 rfl ?_
  refine j_iload_n C d_MD_tell_2 3 rfl ?_
  refine j_isub C d_MD_tell_3 ?_
  refine j_istore (lv9 := [(0, .ref (fad F k0)), (1, .int x1), (2, .int x2), (3, .int x3), (4, .int x4), (5, .int (x4 - x3))]) C d_MD_tell_4 rfl rfl (by decide) ?_
  refine j_iload C d_MD_tell_6 5 rfl ?_
  refine d_if_le (a := (-(f_MD_steps k0 ((σ k0 4) - (x4 - x3)) σ))) (b := (f_MD_steps k0 ((x4 - x3) + (σ k0 4)) σ)) (jp := 37) (tgt := 25) C d_MD_tell_8 (by decide) (fun c1 k2 => ?_) (fun c1 k2 => ?_) ?_
  · refine j_aload_n C d_MD_tell_25 0 rfl ?_
    refine j_aload_n C d_MD_tell_26 0 rfl ?_
    refine j_getI C h0k fl_MD_27 rfl d_MD_tell_27 ?_
    refine j_iload C d_MD_tell_30 5 rfl ?_
    refine j_isub C d_MD_tell_32 ?_
    refine j_callVi C mv_MD_50 [.int ((σ k0 4) - (x4 - x3))] [] h0k (c_MD_steps h0k ((σ k0 4) - (x4 - x3)) σ) rfl rfl (by decide) (Nat.le_of_ble_eq_true rfl) d_MD_tell_33 ?_
    refine j_ineg C d_MD_tell_36 ?_
    exact k2
  · refine j_aload_n C d_MD_tell_11 0 rfl ?_
    refine j_iload C d_MD_tell_12 5 rfl ?_
    refine j_aload_n C d_MD_tell_14 0 rfl ?_
    refine j_getI C h0k fl_MD_27 rfl d_MD_tell_15 ?_
    refine j_iadd C d_MD_tell_18 ?_
    refine j_callVi C mv_MD_50 [.int ((x4 - x3) + (σ k0 4))] [] h0k (c_MD_steps h0k ((x4 - x3) + (σ k0 4)) σ) rfl rfl (by decide) (Nat.le_of_ble_eq_true rfl) d_MD_tell_19 ?_
    refine j_goto (tgt := 37) C d_MD_tell_22 (by decide) ?_
    exact k2
  refine j_nm (fun v3 v3_e => ?_)
  refine j_istore (lv9 := [(0, .ref (fad F k0)), (1, .int x1), (2, .int x2), (3, .int x3), (4, .int x4), (5, .int (x4 - x3)), (6, .int v3)]) C d_MD_tell_37 rfl rfl (by decide) ?_
  refine j_aload_n C d_MD_tell_39 0 rfl ?_
  refine j_getR C h0k fl_MD_42 rfl d_MD_tell_40 ?_
  refine j_iload_n C d_MD_tell_43 2 rfl ?_
  refine j_aload_n C d_MD_tell_44 0 rfl ?_
  refine j_iload_n C d_MD_tell_45 3 rfl ?_
  refine j_aload_n C d_MD_tell_46 0 rfl ?_
  refine j_getI C h0k fl_MD_30 rfl d_MD_tell_47 ?_
  refine j_iload C d_MD_tell_50 6 rfl ?_
  refine j_imul C d_MD_tell_52 ?_
  refine j_iadd C d_MD_tell_53 ?_
  refine j_callVi C mv_MD_79 [.int (x3 + ((σ k0 5) * v3))] [.int x2, .ref (fad F (wtg k0 0))] h0k (c_MD_toSample h0k (x3 + ((σ k0 5) * v3)) σ) rfl rfl (by decide) (Nat.le_of_ble_eq_true rfl) d_MD_tell_54 ?_
  refine j_callVv C mv_MD_82 [.int x2, .int (f_MD_toSample k0 (x3 + ((σ k0 5) * v3)) σ)] [] (tg_5_0 _ h0k) (c_RO_set (tg_5_0 _ h0k) x2 (f_MD_toSample k0 (x3 + ((σ k0 5) * v3)) σ) σ) rfl rfl (by decide) (Nat.le_of_ble_eq_true rfl) d_MD_tell_57 ?_
  refine j_genM (fun σ4 => ?_)
  refine j_iload C d_MD_tell_60 6 rfl ?_
  refine j_join1 74 (fun y106 => [(0, .ref (fad F k0)), (1, .int x1), (2, .int x2), (3, .int x3), (4, .int x4), (5, .int (x4 - x3)), (6, .int y106)]) (fun _ => []) (fun y106 => ?_) (fun K107 H108 => ?_)
  · refine j_iload C d_MD_tell_74 6 rfl ?_
    refine j_aload_n C d_MD_tell_76 0 rfl ?_
    refine j_getI C h0k fl_MD_33 rfl d_MD_tell_77 ?_
    refine j_iconst (v := (1 : Int32)) C d_MD_tell_80 (by decide) ?_
    refine j_iadd C d_MD_tell_81 ?_
    refine j_iconst (v := (2 : Int32)) C d_MD_tell_82 (by decide) ?_
    refine j_idiv C d_MD_tell_83 (by decide) ?_
    refine j_join1 96 (fun y142 => [(0, .ref (fad F k0)), (1, .int x1), (2, .int x2), (3, .int x3), (4, .int x4), (5, .int (x4 - x3)), (6, .int y142)]) (fun _ => []) (fun y142 => ?_) (fun K143 H144 => ?_)
    · refine j_aload_n C d_MD_tell_96 0 rfl ?_
      refine j_iload_n C d_MD_tell_97 1 rfl ?_
      refine j_iload C d_MD_tell_98 6 rfl ?_
      refine j_callVv C mv_MD_86 [.int x1, .int y142] [] h0k (c_MD_learn h0k x1 y142 σ4) rfl rfl (by decide) (Nat.le_of_ble_eq_true rfl) d_MD_tell_100 ?_
      refine j_genM (fun σ145 => ?_)
      refine j_iload C d_MD_tell_103 6 rfl ?_
      refine d_if_ge (a := ((2 : Int32) * y142)) (b := (((-2 : Int32) * y142) - (1 : Int32))) (jp := 122) (tgt := 118) C d_MD_tell_105 (by decide) (fun c146 k147 => ?_) (fun c146 k147 => ?_) ?_
      · refine j_iconst (v := (2 : Int32)) C d_MD_tell_118 (by decide) ?_
        refine j_iload C d_MD_tell_119 6 rfl ?_
        refine j_imul C d_MD_tell_121 ?_
        exact k147
      · refine j_bipush (v := (-2 : Int32)) C d_MD_tell_108 (by decide) ?_
        refine j_iload C d_MD_tell_110 6 rfl ?_
        refine j_imul C d_MD_tell_112 ?_
        refine j_iconst (v := (1 : Int32)) C d_MD_tell_113 (by decide) ?_
        refine j_isub C d_MD_tell_114 ?_
        refine j_goto (tgt := 122) C d_MD_tell_115 (by decide) ?_
        exact k147
      exact j_ireti C (fun ρ h => leaf_eq h) d_MD_tell_122
    · refine j_icmp_lt (tgt := 96) C d_MD_tell_84 (by decide) (fun c148 => ?_) (fun c148 => ?_)
      · exact H144 y106
      · refine j_iload C d_MD_tell_87 6 rfl ?_
        refine j_aload_n C d_MD_tell_89 0 rfl ?_
        refine j_getI C h0k fl_MD_33 rfl d_MD_tell_90 ?_
        refine j_isub C d_MD_tell_93 ?_
        refine j_istore (lv9 := [(0, .ref (fad F k0)), (1, .int x1), (2, .int x2), (3, .int x3), (4, .int x4), (5, .int (x4 - x3)), (6, .int (y106 - (σ4 k0 6)))]) C d_MD_tell_94 rfl rfl (by decide) ?_
        exact H144 (y106 - (σ4 k0 6))
  · refine j_if_ge (tgt := 74) C d_MD_tell_62 (by decide) (fun c149 => ?_) (fun c149 => ?_)
    · exact H108 v3
    · refine j_iload C d_MD_tell_65 6 rfl ?_
      refine j_aload_n C d_MD_tell_67 0 rfl ?_
      refine j_getI C h0k fl_MD_33 rfl d_MD_tell_68 ?_
      refine j_iadd C d_MD_tell_71 ?_
      refine j_istore (lv9 := [(0, .ref (fad F k0)), (1, .int x1), (2, .int x2), (3, .int x3), (4, .int x4), (5, .int (x4 - x3)), (6, .int (v3 + (σ4 k0 6)))]) C d_MD_tell_72 rfl rfl (by decide) ?_
      exact H108 (v3 + (σ4 k0 6))
theorem c_MD_tell {l : Launch} {D : va_G} {G : GC} {ad : Nat → Nat} {k0 : Nat} (h0k : Is k0 5) (x1 : Int32) (x2 : Int32) (x3 : Int32) (x4 : Int32) (σ : Mem) : Ctr l D G ad ⟨"LineFrames$Model", "tell", "(IIII)I"⟩ prog_6_method_6_code 7 (some .int) 2 46 [.ref (ad k0), .int x1, .int x2, .int x3, .int x4] σ (.inl (some (.int (f_MD_tell k0 x1 x2 x3 x4 σ).1)), (f_MD_tell k0 x1 x2 x3 x4 σ).2) := ctr_J (cv := cvIM) (E := f_MD_tell k0 x1 x2 x3 x4 σ) (by decide +kernel) (Nat.le_of_ble_eq_true rfl) rfl (fun F h C => by subst h; exact w_MD_tell C h0k x1 x2 x3 x4 σ)
/-! LineFrames$BitSink bits (II)V -/
theorem d_BK_bits_0 : decode prog_2_method_4_code 0 = .ok (.iload_n 2, 1) := by decide +kernel
theorem d_BK_bits_1 : decode prog_2_method_4_code 1 = .ok (.iconst 1, 1) := by decide +kernel
theorem d_BK_bits_2 : decode prog_2_method_4_code 2 = .ok (.isub, 1) := by decide +kernel
theorem d_BK_bits_3 : decode prog_2_method_4_code 3 = .ok (.istore_n 3, 1) := by decide +kernel
theorem d_BK_bits_4 : decode prog_2_method_4_code 4 = .ok (.iload_n 3, 1) := by decide +kernel
theorem d_BK_bits_5 : decode prog_2_method_4_code 5 = .ok (.ifCond .lt 79, 3) := by decide +kernel
theorem d_BK_bits_8 : decode prog_2_method_4_code 8 = .ok (.aload_n 0, 1) := by decide +kernel
theorem d_BK_bits_9 : decode prog_2_method_4_code 9 = .ok (.aload_n 0, 1) := by decide +kernel
theorem d_BK_bits_10 : decode prog_2_method_4_code 10 = .ok (.getfield 9, 3) := by decide +kernel
theorem d_BK_bits_13 : decode prog_2_method_4_code 13 = .ok (.iconst 2, 1) := by decide +kernel
theorem d_BK_bits_14 : decode prog_2_method_4_code 14 = .ok (.imul, 1) := by decide +kernel
theorem d_BK_bits_15 : decode prog_2_method_4_code 15 = .ok (.iload_n 1, 1) := by decide +kernel
theorem d_BK_bits_16 : decode prog_2_method_4_code 16 = .ok (.iload_n 3, 1) := by decide +kernel
theorem d_BK_bits_17 : decode prog_2_method_4_code 17 = .ok (.ishr, 1) := by decide +kernel
theorem d_BK_bits_18 : decode prog_2_method_4_code 18 = .ok (.iconst 1, 1) := by decide +kernel
theorem d_BK_bits_19 : decode prog_2_method_4_code 19 = .ok (.iand, 1) := by decide +kernel
theorem d_BK_bits_20 : decode prog_2_method_4_code 20 = .ok (.iadd, 1) := by decide +kernel
theorem d_BK_bits_21 : decode prog_2_method_4_code 21 = .ok (.putfield 9, 3) := by decide +kernel
theorem d_BK_bits_24 : decode prog_2_method_4_code 24 = .ok (.aload_n 0, 1) := by decide +kernel
theorem d_BK_bits_25 : decode prog_2_method_4_code 25 = .ok (.dup, 1) := by decide +kernel
theorem d_BK_bits_26 : decode prog_2_method_4_code 26 = .ok (.getfield 15, 3) := by decide +kernel
theorem d_BK_bits_29 : decode prog_2_method_4_code 29 = .ok (.iconst 1, 1) := by decide +kernel
theorem d_BK_bits_30 : decode prog_2_method_4_code 30 = .ok (.isub, 1) := by decide +kernel
theorem d_BK_bits_31 : decode prog_2_method_4_code 31 = .ok (.putfield 15, 3) := by decide +kernel
theorem d_BK_bits_34 : decode prog_2_method_4_code 34 = .ok (.aload_n 0, 1) := by decide +kernel
theorem d_BK_bits_35 : decode prog_2_method_4_code 35 = .ok (.getfield 15, 3) := by decide +kernel
theorem d_BK_bits_38 : decode prog_2_method_4_code 38 = .ok (.ifCond .ne 40, 3) := by decide +kernel
theorem d_BK_bits_41 : decode prog_2_method_4_code 41 = .ok (.aload_n 0, 1) := by decide +kernel
theorem d_BK_bits_42 : decode prog_2_method_4_code 42 = .ok (.getfield 18, 3) := by decide +kernel
theorem d_BK_bits_45 : decode prog_2_method_4_code 45 = .ok (.aload_n 0, 1) := by decide +kernel
theorem d_BK_bits_46 : decode prog_2_method_4_code 46 = .ok (.getfield 9, 3) := by decide +kernel
theorem d_BK_bits_49 : decode prog_2_method_4_code 49 = .ok (.invokevirtual 26, 3) := by decide +kernel
theorem d_BK_bits_52 : decode prog_2_method_4_code 52 = .ok (.aload_n 0, 1) := by decide +kernel
theorem d_BK_bits_53 : decode prog_2_method_4_code 53 = .ok (.aload_n 0, 1) := by decide +kernel
theorem d_BK_bits_54 : decode prog_2_method_4_code 54 = .ok (.getfield 9, 3) := by decide +kernel
theorem d_BK_bits_57 : decode prog_2_method_4_code 57 = .ok (.sipush 255, 3) := by decide +kernel
theorem d_BK_bits_60 : decode prog_2_method_4_code 60 = .ok (.if_icmp .ne 8, 3) := by decide +kernel
theorem d_BK_bits_63 : decode prog_2_method_4_code 63 = .ok (.bipush 7, 2) := by decide +kernel
theorem d_BK_bits_65 : decode prog_2_method_4_code 65 = .ok (.goto 5, 3) := by decide +kernel
theorem d_BK_bits_68 : decode prog_2_method_4_code 68 = .ok (.bipush 8, 2) := by decide +kernel
theorem d_BK_bits_70 : decode prog_2_method_4_code 70 = .ok (.putfield 15, 3) := by decide +kernel
theorem d_BK_bits_73 : decode prog_2_method_4_code 73 = .ok (.aload_n 0, 1) := by decide +kernel
theorem d_BK_bits_74 : decode prog_2_method_4_code 74 = .ok (.iconst 0, 1) := by decide +kernel
theorem d_BK_bits_75 : decode prog_2_method_4_code 75 = .ok (.putfield 9, 3) := by decide +kernel
theorem d_BK_bits_78 : decode prog_2_method_4_code 78 = .ok (.iinc 3 (-1), 3) := by decide +kernel
theorem d_BK_bits_81 : decode prog_2_method_4_code 81 = .ok (.goto (-77), 3) := by decide +kernel
theorem d_BK_bits_84 : decode prog_2_method_4_code 84 = .ok (.return_, 1) := by decide +kernel
def L_BK_bits_4 (r0 : Nat) (b1 : Int32) (b2 : Int32) : Nat → Int32 → Mem →  Option (Int32 × Mem)
  | 0, _, _ => none
  | n + 1, a3, σ =>
  if a3 < 0 then
  some (a3, σ)
  else
  lt (mput σ r0 1 (((σ r0 1) * (2 : Int32)) + ((b1 >>> (a3 &&& 31)) &&& (1 : Int32)))) fun σ2 =>
  lt (mput σ2 r0 2 ((σ2 r0 2) - (1 : Int32))) fun σ3 =>
  lt (fun  (σ9 : Mem) => 
  L_BK_bits_4 r0 b1 b2 n (a3 + (-1 : Int32)) σ9) fun K10 =>
  if (σ3 r0 2) = 0 then
  lt (f_BY_add (wtg r0 0) (σ3 r0 1) σ3) fun σ13 =>
  lt (mput σ13 r0 2 (if (σ13 r0 1) = (255 : Int32) then (7 : Int32) else (8 : Int32))) fun σ16 =>
  lt (mput σ16 r0 1 (0 : Int32)) fun σ17 =>
  K10 σ17
  else
  K10 σ3
def f_BK_bits (k0 : Nat) (x1 : Int32) (x2 : Int32) (σ : Mem) : Option (Mem) :=
  (L_BK_bits_4 k0 x1 x2 9999 (x2 - (1 : Int32)) σ).bind fun q18 =>
  some (q18.2)
set_option maxHeartbeats 4000000 in
set_option maxRecDepth 100000 in
theorem wL_BK_bits_4 {F : Fx} (C : Ctx F prog_2_method_4_code 4 "LineFrames$BitSink" none 1 21) {cv : Option (Int32 × Mem) → Option Rs} (h0 : cv none = none) (r0 : Nat) (hr0 : Is r0 1) (b1 : Int32) (b2 : Int32) (hex : ∀ q : Int32 × Mem, J F 4 cv (some q) q.2 84 [(0, .ref (fad F r0)), (1, .int b1), (2, .int b2), (3, .int q.1)] []) : ∀ (n : Nat) (a3 : Int32) (σ : Mem), J F 4 cv (L_BK_bits_4 r0 b1 b2 n a3 σ) σ 4 [(0, .ref (fad F r0)), (1, .int b1), (2, .int b2), (3, .int a3)] [] := by
  intro n
  induction n with
  | zero => intro a3 σ hE; rw [L_BK_bits_4, h0] at hE; cases hE
  | succ n ih =>
    intro a3 σ
    rw [L_BK_bits_4]
    refine j_iload_n C d_BK_bits_4 3 rfl ?_
    refine j_if_lt (tgt := 84) C d_BK_bits_5 (by decide) (fun c1 => ?_) (fun c1 => ?_)
    · exact hex (a3, σ)
    · refine j_aload_n C d_BK_bits_8 0 rfl ?_
      refine j_aload_n C d_BK_bits_9 0 rfl ?_
      refine j_getI C hr0 fl_BK_9 rfl d_BK_bits_10 ?_
      refine j_iconst (v := (2 : Int32)) C d_BK_bits_13 (by decide) ?_
      refine j_imul C d_BK_bits_14 ?_
      refine j_iload_n C d_BK_bits_15 1 rfl ?_
      refine j_iload_n C d_BK_bits_16 3 rfl ?_
      refine j_ishr C d_BK_bits_17 ?_
      refine j_iconst (v := (1 : Int32)) C d_BK_bits_18 (by decide) ?_
      refine j_iand C d_BK_bits_19 ?_
      refine j_iadd C d_BK_bits_20 ?_
      refine j_put C hr0 fl_BK_9 fw_1_1 rfl rfl rfl d_BK_bits_21 (fun σ2 => ?_)
      refine j_aload_n C d_BK_bits_24 0 rfl ?_
      refine j_dup C d_BK_bits_25 rfl ?_
      refine j_getI C hr0 fl_BK_15 rfl d_BK_bits_26 ?_
      refine j_iconst (v := (1 : Int32)) C d_BK_bits_29 (by decide) ?_
      refine j_isub C d_BK_bits_30 ?_
      refine j_put C hr0 fl_BK_15 fw_1_2 rfl rfl rfl d_BK_bits_31 (fun σ3 => ?_)
      refine j_aload_n C d_BK_bits_34 0 rfl ?_
      refine j_getI C hr0 fl_BK_15 rfl d_BK_bits_35 ?_
      refine j_join0m 78 (fun _ => [(0, .ref (fad F r0)), (1, .int b1), (2, .int b2), (3, .int a3)]) (fun _ => []) (fun σ9 => ?_) (fun K10 H11 => ?_)
      · refine j_iinc (v := (a3 + (-1 : Int32))) (lv9 := [(0, .ref (fad F r0)), (1, .int b1), (2, .int b2), (3, .int (a3 + (-1 : Int32)))]) C d_BK_bits_78 3 rfl rfl rfl rfl (by decide) ?_
        refine j_goto (tgt := 4) C d_BK_bits_81 (by decide) ?_
        exact ih (a3 + (-1 : Int32)) σ9
      · refine j_if_ne (tgt := 78) C d_BK_bits_38 (by decide) (fun c12 => ?_) (fun c12 => ?_)
        · exact H11 σ3
        · refine j_aload_n C d_BK_bits_41 0 rfl ?_
          refine j_getR C hr0 fl_BK_18 rfl d_BK_bits_42 ?_
          refine j_aload_n C d_BK_bits_45 0 rfl ?_
          refine j_getI C hr0 fl_BK_9 rfl d_BK_bits_46 ?_
          refine j_callVv C mv_BK_26 [.int (σ3 r0 1)] [] (tg_1_0 _ hr0) (c_BY_add (tg_1_0 _ hr0) (σ3 r0 1) σ3) rfl rfl (by decide) (Nat.le_of_ble_eq_true rfl) d_BK_bits_49 ?_
          refine j_genM (fun σ13 => ?_)
          refine j_aload_n C d_BK_bits_52 0 rfl ?_
          refine j_aload_n C d_BK_bits_53 0 rfl ?_
          refine j_getI C hr0 fl_BK_9 rfl d_BK_bits_54 ?_
          refine j_sipush (v := (255 : Int32)) C d_BK_bits_57 (by decide) ?_
          refine d_icmp_ne (a := (7 : Int32)) (b := (8 : Int32)) (jp := 70) (tgt := 68) C d_BK_bits_60 (by decide) (fun c14 k15 => ?_) (fun c14 k15 => ?_) ?_
          · refine j_bipush (v := (8 : Int32)) C d_BK_bits_68 (by decide) ?_
            exact k15
          · refine j_bipush (v := (7 : Int32)) C d_BK_bits_63 (by decide) ?_
            refine j_goto (tgt := 70) C d_BK_bits_65 (by decide) ?_
            exact k15
          refine j_put C hr0 fl_BK_15 fw_1_2 rfl rfl rfl d_BK_bits_70 (fun σ16 => ?_)
          refine j_aload_n C d_BK_bits_73 0 rfl ?_
          refine j_iconst (v := (0 : Int32)) C d_BK_bits_74 (by decide) ?_
          refine j_put C hr0 fl_BK_9 fw_1_1 rfl rfl rfl d_BK_bits_75 (fun σ17 => ?_)
          exact H11 σ17
set_option maxHeartbeats 4000000 in
set_option maxRecDepth 100000 in
theorem w_BK_bits {F : Fx} (C : Ctx F prog_2_method_4_code 4 "LineFrames$BitSink" none 1 21) {k0 : Nat} (h0k : Is k0 1) (x1 : Int32) (x2 : Int32) (σ : Mem) : J F 4 (cvO cvM) (f_BK_bits k0 x1 x2 σ) σ 0 [(0, .ref (fad F k0)), (1, .int x1), (2, .int x2)] [] := by
  unfold f_BK_bits
  refine j_iload_n C d_BK_bits_0 2 rfl ?_
  refine j_iconst (v := (1 : Int32)) C d_BK_bits_1 (by decide) ?_
  refine j_isub C d_BK_bits_2 ?_
  refine j_istore_n (lv9 := [(0, .ref (fad F k0)), (1, .int x1), (2, .int x2), (3, .int (x2 - (1 : Int32)))]) C d_BK_bits_3 rfl rfl (by decide) ?_
  refine j_loop (wL_BK_bits_4 C rfl k0 h0k x1 x2 (fun q18 => j_some ?_) 9999 (x2 - (1 : Int32)) σ)
  exact j_vret C (fun ρ h => leaf_eq h) d_BK_bits_84
theorem c_BK_bits {l : Launch} {D : va_G} {G : GC} {ad : Nat → Nat} {k0 : Nat} (h0k : Is k0 1) (x1 : Int32) (x2 : Int32) (σ : Mem) {q : Mem} (hq : f_BK_bits k0 x1 x2 σ = some q) : Ctr l D G ad ⟨"LineFrames$BitSink", "bits", "(II)V"⟩ prog_2_method_4_code 4 none 1 21 [.ref (ad k0), .int x1, .int x2] σ (.inl none, q) := ctr_J (cv := (cvO cvM)) (E := f_BK_bits k0 x1 x2 σ) (by decide +kernel) (Nat.le_of_ble_eq_true rfl) (by rw [hq]; rfl) (fun F h C => by subst h; exact w_BK_bits C h0k x1 x2 σ)
/-! LineFrames$BitSink code (II)V -/
theorem d_BK_code_0 : decode prog_2_method_2_code 0 = .ok (.iload_n 1, 1) := by decide +kernel
theorem d_BK_code_1 : decode prog_2_method_2_code 1 = .ok (.iload_n 2, 1) := by decide +kernel
theorem d_BK_code_2 : decode prog_2_method_2_code 2 = .ok (.ishr, 1) := by decide +kernel
theorem d_BK_code_3 : decode prog_2_method_2_code 3 = .ok (.istore_n 3, 1) := by decide +kernel
theorem d_BK_code_4 : decode prog_2_method_2_code 4 = .ok (.iload_n 3, 1) := by decide +kernel
theorem d_BK_code_5 : decode prog_2_method_2_code 5 = .ok (.bipush 20, 2) := by decide +kernel
theorem d_BK_code_7 : decode prog_2_method_2_code 7 = .ok (.if_icmp .ge 24, 3) := by decide +kernel
theorem d_BK_code_10 : decode prog_2_method_2_code 10 = .ok (.aload_n 0, 1) := by decide +kernel
theorem d_BK_code_11 : decode prog_2_method_2_code 11 = .ok (.iconst 0, 1) := by decide +kernel
theorem d_BK_code_12 : decode prog_2_method_2_code 12 = .ok (.iload_n 3, 1) := by decide +kernel
theorem d_BK_code_13 : decode prog_2_method_2_code 13 = .ok (.invokevirtual 22, 3) := by decide +kernel
theorem d_BK_code_16 : decode prog_2_method_2_code 16 = .ok (.aload_n 0, 1) := by decide +kernel
theorem d_BK_code_17 : decode prog_2_method_2_code 17 = .ok (.iconst 1, 1) := by decide +kernel
theorem d_BK_code_18 : decode prog_2_method_2_code 18 = .ok (.iconst 1, 1) := by decide +kernel
theorem d_BK_code_19 : decode prog_2_method_2_code 19 = .ok (.invokevirtual 22, 3) := by decide +kernel
theorem d_BK_code_22 : decode prog_2_method_2_code 22 = .ok (.aload_n 0, 1) := by decide +kernel
theorem d_BK_code_23 : decode prog_2_method_2_code 23 = .ok (.iload_n 1, 1) := by decide +kernel
theorem d_BK_code_24 : decode prog_2_method_2_code 24 = .ok (.iload_n 2, 1) := by decide +kernel
theorem d_BK_code_25 : decode prog_2_method_2_code 25 = .ok (.invokevirtual 22, 3) := by decide +kernel
theorem d_BK_code_28 : decode prog_2_method_2_code 28 = .ok (.goto 23, 3) := by decide +kernel
theorem d_BK_code_31 : decode prog_2_method_2_code 31 = .ok (.aload_n 0, 1) := by decide +kernel
theorem d_BK_code_32 : decode prog_2_method_2_code 32 = .ok (.iconst 0, 1) := by decide +kernel
theorem d_BK_code_33 : decode prog_2_method_2_code 33 = .ok (.bipush 20, 2) := by decide +kernel
theorem d_BK_code_35 : decode prog_2_method_2_code 35 = .ok (.invokevirtual 22, 3) := by decide +kernel
theorem d_BK_code_38 : decode prog_2_method_2_code 38 = .ok (.aload_n 0, 1) := by decide +kernel
theorem d_BK_code_39 : decode prog_2_method_2_code 39 = .ok (.iconst 1, 1) := by decide +kernel
theorem d_BK_code_40 : decode prog_2_method_2_code 40 = .ok (.iconst 1, 1) := by decide +kernel
theorem d_BK_code_41 : decode prog_2_method_2_code 41 = .ok (.invokevirtual 22, 3) := by decide +kernel
theorem d_BK_code_44 : decode prog_2_method_2_code 44 = .ok (.aload_n 0, 1) := by decide +kernel
theorem d_BK_code_45 : decode prog_2_method_2_code 45 = .ok (.iload_n 1, 1) := by decide +kernel
theorem d_BK_code_46 : decode prog_2_method_2_code 46 = .ok (.bipush 9, 2) := by decide +kernel
theorem d_BK_code_48 : decode prog_2_method_2_code 48 = .ok (.invokevirtual 22, 3) := by decide +kernel
theorem d_BK_code_51 : decode prog_2_method_2_code 51 = .ok (.return_, 1) := by decide +kernel
def f_BK_code (k0 : Nat) (x1 : Int32) (x2 : Int32) (σ : Mem) : Option (Mem) :=
  if (20 : Int32) ≤ (x1 >>> (x2 &&& 31)) then
  (f_BK_bits k0 (0 : Int32) (20 : Int32) σ).bind fun σ5 =>
  (f_BK_bits k0 (1 : Int32) (1 : Int32) σ5).bind fun σ7 =>
  (f_BK_bits k0 x1 (9 : Int32) σ7).bind fun σ9 =>
  some (σ9)
  else
  (f_BK_bits k0 (0 : Int32) (x1 >>> (x2 &&& 31)) σ).bind fun σ11 =>
  (f_BK_bits k0 (1 : Int32) (1 : Int32) σ11).bind fun σ13 =>
  (f_BK_bits k0 x1 x2 σ13).bind fun σ15 =>
  some (σ15)
set_option maxHeartbeats 4000000 in
set_option maxRecDepth 100000 in
theorem w_BK_code {F : Fx} (C : Ctx F prog_2_method_2_code 4 "LineFrames$BitSink" none 2 44) {k0 : Nat} (h0k : Is k0 1) (x1 : Int32) (x2 : Int32) (σ : Mem) : J F 4 (cvO cvM) (f_BK_code k0 x1 x2 σ) σ 0 [(0, .ref (fad F k0)), (1, .int x1), (2, .int x2)] [] := by
  unfold f_BK_code
  refine j_iload_n C d_BK_code_0 1 rfl ?_
  refine j_iload_n C d_BK_code_1 2 rfl ?_
  refine j_ishr C d_BK_code_2 ?_
  refine j_istore_n (lv9 := [(0, .ref (fad F k0)), (1, .int x1), (2, .int x2), (3, .int (x1 >>> (x2 &&& 31)))]) C d_BK_code_3 rfl rfl (by decide) ?_
  refine j_iload_n C d_BK_code_4 3 rfl ?_
  refine j_bipush (v := (20 : Int32)) C d_BK_code_5 (by decide) ?_
  refine j_icmp_ge (tgt := 31) C d_BK_code_7 (by decide) (fun c3 => ?_) (fun c3 => ?_)
  · refine j_aload_n C d_BK_code_31 0 rfl ?_
    refine j_iconst (v := (0 : Int32)) C d_BK_code_32 (by decide) ?_
    refine j_bipush (v := (20 : Int32)) C d_BK_code_33 (by decide) ?_
    refine j_bind rfl (fun σ5 e4 => ?_)
    refine j_callVv C mv_BK_22 [.int (0 : Int32), .int (20 : Int32)] [] h0k (c_BK_bits h0k (0 : Int32) (20 : Int32) σ e4) rfl rfl (by decide) (Nat.le_of_ble_eq_true rfl) d_BK_code_35 ?_
    refine j_aload_n C d_BK_code_38 0 rfl ?_
    refine j_iconst (v := (1 : Int32)) C d_BK_code_39 (by decide) ?_
    refine j_iconst (v := (1 : Int32)) C d_BK_code_40 (by decide) ?_
    refine j_bind rfl (fun σ7 e6 => ?_)
    refine j_callVv C mv_BK_22 [.int (1 : Int32), .int (1 : Int32)] [] h0k (c_BK_bits h0k (1 : Int32) (1 : Int32) σ5 e6) rfl rfl (by decide) (Nat.le_of_ble_eq_true rfl) d_BK_code_41 ?_
    refine j_aload_n C d_BK_code_44 0 rfl ?_
    refine j_iload_n C d_BK_code_45 1 rfl ?_
    refine j_bipush (v := (9 : Int32)) C d_BK_code_46 (by decide) ?_
    refine j_bind rfl (fun σ9 e8 => ?_)
    refine j_callVv C mv_BK_22 [.int x1, .int (9 : Int32)] [] h0k (c_BK_bits h0k x1 (9 : Int32) σ7 e8) rfl rfl (by decide) (Nat.le_of_ble_eq_true rfl) d_BK_code_48 ?_
    exact j_vret C (fun ρ h => leaf_eq h) d_BK_code_51
  · refine j_aload_n C d_BK_code_10 0 rfl ?_
    refine j_iconst (v := (0 : Int32)) C d_BK_code_11 (by decide) ?_
    refine j_iload_n C d_BK_code_12 3 rfl ?_
    refine j_bind rfl (fun σ11 e10 => ?_)
    refine j_callVv C mv_BK_22 [.int (0 : Int32), .int (x1 >>> (x2 &&& 31))] [] h0k (c_BK_bits h0k (0 : Int32) (x1 >>> (x2 &&& 31)) σ e10) rfl rfl (by decide) (Nat.le_of_ble_eq_true rfl) d_BK_code_13 ?_
    refine j_aload_n C d_BK_code_16 0 rfl ?_
    refine j_iconst (v := (1 : Int32)) C d_BK_code_17 (by decide) ?_
    refine j_iconst (v := (1 : Int32)) C d_BK_code_18 (by decide) ?_
    refine j_bind rfl (fun σ13 e12 => ?_)
    refine j_callVv C mv_BK_22 [.int (1 : Int32), .int (1 : Int32)] [] h0k (c_BK_bits h0k (1 : Int32) (1 : Int32) σ11 e12) rfl rfl (by decide) (Nat.le_of_ble_eq_true rfl) d_BK_code_19 ?_
    refine j_aload_n C d_BK_code_22 0 rfl ?_
    refine j_iload_n C d_BK_code_23 1 rfl ?_
    refine j_iload_n C d_BK_code_24 2 rfl ?_
    refine j_bind rfl (fun σ15 e14 => ?_)
    refine j_callVv C mv_BK_22 [.int x1, .int x2] [] h0k (c_BK_bits h0k x1 x2 σ13 e14) rfl rfl (by decide) (Nat.le_of_ble_eq_true rfl) d_BK_code_25 ?_
    refine j_goto (tgt := 51) C d_BK_code_28 (by decide) ?_
    exact j_vret C (fun ρ h => leaf_eq h) d_BK_code_51
theorem c_BK_code {l : Launch} {D : va_G} {G : GC} {ad : Nat → Nat} {k0 : Nat} (h0k : Is k0 1) (x1 : Int32) (x2 : Int32) (σ : Mem) {q : Mem} (hq : f_BK_code k0 x1 x2 σ = some q) : Ctr l D G ad ⟨"LineFrames$BitSink", "code", "(II)V"⟩ prog_2_method_2_code 4 none 2 44 [.ref (ad k0), .int x1, .int x2] σ (.inl none, q) := ctr_J (cv := (cvO cvM)) (E := f_BK_code k0 x1 x2 σ) (by decide +kernel) (Nat.le_of_ble_eq_true rfl) (by rw [hq]; rfl) (fun F h C => by subst h; exact w_BK_code C h0k x1 x2 σ)
