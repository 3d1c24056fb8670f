/-! LineFrames$StreamWriter addSample (IIIZ)V -/
theorem d_SW_addSample_0 : decode prog_11_method_13_code 0 = .ok (.iload_n 1, 1) := by decide +kernel
theorem d_SW_addSample_1 : decode prog_11_method_13_code 1 = .ok (.iload_n 2, 1) := by decide +kernel
theorem d_SW_addSample_2 : decode prog_11_method_13_code 2 = .ok (.iload_n 3, 1) := by decide +kernel
theorem d_SW_addSample_3 : decode prog_11_method_13_code 3 = .ok (.invokestatic 152, 3) := by decide +kernel
theorem d_SW_addSample_6 : decode prog_11_method_13_code 6 = .ok (.istore 5, 2) := by decide +kernel
theorem d_SW_addSample_8 : decode prog_11_method_13_code 8 = .ok (.aload_n 0, 1) := by decide +kernel
theorem d_SW_addSample_9 : decode prog_11_method_13_code 9 = .ok (.getfield 19, 3) := by decide +kernel
theorem d_SW_addSample_12 : decode prog_11_method_13_code 12 = .ok (.iload_n 1, 1) := by decide +kernel
theorem d_SW_addSample_13 : decode prog_11_method_13_code 13 = .ok (.iload_n 2, 1) := by decide +kernel
theorem d_SW_addSample_14 : decode prog_11_method_13_code 14 = .ok (.iload_n 3, 1) := by decide +kernel
theorem d_SW_addSample_15 : decode prog_11_method_13_code 15 = .ok (.iload 4, 2) := by decide +kernel
theorem d_SW_addSample_17 : decode prog_11_method_13_code 17 = .ok (.invokevirtual 156, 3) := by decide +kernel
theorem d_SW_addSample_20 : decode prog_11_method_13_code 20 = .ok (.istore 6, 2) := by decide +kernel
theorem d_SW_addSample_22 : decode prog_11_method_13_code 22 = .ok (.aload_n 0, 1) := by decide +kernel
theorem d_SW_addSample_23 : decode prog_11_method_13_code 23 = .ok (.getfield 19, 3) := by decide +kernel
theorem d_SW_addSample_26 : decode prog_11_method_13_code 26 = .ok (.iload_n 1, 1) := by decide +kernel
theorem d_SW_addSample_27 : decode prog_11_method_13_code 27 = .ok (.invokevirtual 160, 3) := by decide +kernel
theorem d_SW_addSample_30 : decode prog_11_method_13_code 30 = .ok (.istore 7, 2) := by decide +kernel
theorem d_SW_addSample_32 : decode prog_11_method_13_code 32 = .ok (.aload_n 0, 1) := by decide +kernel
theorem d_SW_addSample_33 : decode prog_11_method_13_code 33 = .ok (.getfield 19, 3) := by decide +kernel
theorem d_SW_addSample_36 : decode prog_11_method_13_code 36 = .ok (.iload_n 1, 1) := by decide +kernel
theorem d_SW_addSample_37 : decode prog_11_method_13_code 37 = .ok (.iload 5, 2) := by decide +kernel
theorem d_SW_addSample_39 : decode prog_11_method_13_code 39 = .ok (.iload 6, 2) := by decide +kernel
theorem d_SW_addSample_41 : decode prog_11_method_13_code 41 = .ok (.aload_n 0, 1) := by decide +kernel
theorem d_SW_addSample_42 : decode prog_11_method_13_code 42 = .ok (.getfield 25, 3) := by decide +kernel
theorem d_SW_addSample_45 : decode prog_11_method_13_code 45 = .ok (.getfield 163, 3) := by decide +kernel
theorem d_SW_addSample_48 : decode prog_11_method_13_code 48 = .ok (.iload 5, 2) := by decide +kernel
theorem d_SW_addSample_50 : decode prog_11_method_13_code 50 = .ok (.invokevirtual 118, 3) := by decide +kernel
theorem d_SW_addSample_53 : decode prog_11_method_13_code 53 = .ok (.invokevirtual 166, 3) := by decide +kernel
theorem d_SW_addSample_56 : decode prog_11_method_13_code 56 = .ok (.istore 8, 2) := by decide +kernel
theorem d_SW_addSample_58 : decode prog_11_method_13_code 58 = .ok (.aload_n 0, 1) := by decide +kernel
theorem d_SW_addSample_59 : decode prog_11_method_13_code 59 = .ok (.getfield 38, 3) := by decide +kernel
theorem d_SW_addSample_62 : decode prog_11_method_13_code 62 = .ok (.iload 8, 2) := by decide +kernel
theorem d_SW_addSample_64 : decode prog_11_method_13_code 64 = .ok (.iload 7, 2) := by decide +kernel
theorem d_SW_addSample_66 : decode prog_11_method_13_code 66 = .ok (.invokevirtual 170, 3) := by decide +kernel
theorem d_SW_addSample_69 : decode prog_11_method_13_code 69 = .ok (.return_, 1) := by decide +kernel
def f_SW_addSample (k0 : Nat) (x1 : Int32) (x2 : Int32) (x3 : Int32) (x4 : Int32) (σ : Mem) : Option (Mem) :=
  (f_MD_shift (wtg k0 2) x1 σ).bind fun r2 =>
  lt (f_MD_tell (wtg k0 2) x1 (f_LF_placeOf x1 x2 x3 σ) (f_MD_foretell (wtg k0 2) x1 x2 x3 x4 σ) (f_RO_get (wtg (wtg k0 0) 0) (f_LF_placeOf x1 x2 x3 σ) σ) σ) fun q3 =>
  (f_BK_code (wtg k0 3) q3.1 r2 q3.2).bind fun σ5 =>
  some (σ5)
set_option maxHeartbeats 4000000 in
set_option maxRecDepth 100000 in
theorem w_SW_addSample {F : Fx} (C : Ctx F prog_11_method_13_code 9 "LineFrames$StreamWriter" none 3 72) {k0 : Nat} (h0k : Is k0 10) (x1 : Int32) (x2 : Int32) (x3 : Int32) (x4 : Int32) (σ : Mem) : J F 9 (cvO cvM) (f_SW_addSample k0 x1 x2 x3 x4 σ) σ 0 [(0, .ref (fad F k0)), (1, .int x1), (2, .int x2), (3, .int x3), (4, .int x4)] [] := by
  unfold f_SW_addSample
  refine j_iload_n C d_SW_addSample_0 1 rfl ?_
  refine j_iload_n C d_SW_addSample_1 2 rfl ?_
  refine j_iload_n C d_SW_addSample_2 3 rfl ?_
  refine j_callSi C ms_SW_152 [.int x1, .int x2, .int x3] [] (c_LF_placeOf x1 x2 x3 σ) rfl rfl (by decide) (Nat.le_of_ble_eq_true rfl) d_SW_addSample_3 ?_
  refine j_istore (lv9 := [(0, .ref (fad F k0)), (1, .int x1), (2, .int x2), (3, .int x3), (4, .int x4), (5, .int (f_LF_placeOf x1 x2 x3 σ))]) C d_SW_addSample_6 rfl rfl (by decide) ?_
  refine j_aload_n C d_SW_addSample_8 0 rfl ?_
  refine j_getR C h0k fl_SW_19 rfl d_SW_addSample_9 ?_
  refine j_iload_n C d_SW_addSample_12 1 rfl ?_
  refine j_iload_n C d_SW_addSample_13 2 rfl ?_
  refine j_iload_n C d_SW_addSample_14 3 rfl ?_
  refine j_iload C d_SW_addSample_15 4 rfl ?_
  refine j_callVi C mv_SW_156 [.int x1, .int x2, .int x3, .int x4] [] (tg_10_2 _ h0k) (c_MD_foretell (tg_10_2 _ h0k) x1 x2 x3 x4 σ) rfl rfl (by decide) (Nat.le_of_ble_eq_true rfl) d_SW_addSample_17 ?_
  refine j_istore (lv9 := [(0, .ref (fad F k0)), (1, .int x1), (2, .int x2), (3, .int x3), (4, .int x4), (5, .int (f_LF_placeOf x1 x2 x3 σ)), (6, .int (f_MD_foretell (wtg k0 2) x1 x2 x3 x4 σ))]) C d_SW_addSample_20 rfl rfl (by decide) ?_
  refine j_aload_n C d_SW_addSample_22 0 rfl ?_
  refine j_getR C h0k fl_SW_19 rfl d_SW_addSample_23 ?_
  refine j_iload_n C d_SW_addSample_26 1 rfl ?_
  refine j_bind rfl (fun r2 e1 => ?_)
  refine j_callVi C mv_SW_160 [.int x1] [] (tg_10_2 _ h0k) (c_MD_shift (tg_10_2 _ h0k) x1 σ e1) rfl rfl (by decide) (Nat.le_of_ble_eq_true rfl) d_SW_addSample_27 ?_
  refine j_istore (lv9 := [(0, .ref (fad F k0)), (1, .int x1), (2, .int x2), (3, .int x3), (4, .int x4), (5, .int (f_LF_placeOf x1 x2 x3 σ)), (6, .int (f_MD_foretell (wtg k0 2) x1 x2 x3 x4 σ)), (7, .int r2)]) C d_SW_addSample_30 rfl rfl (by decide) ?_
  refine j_aload_n C d_SW_addSample_32 0 rfl ?_
  refine j_getR C h0k fl_SW_19 rfl d_SW_addSample_33 ?_
  refine j_iload_n C d_SW_addSample_36 1 rfl ?_
  refine j_iload C d_SW_addSample_37 5 rfl ?_
  refine j_iload C d_SW_addSample_39 6 rfl ?_
  refine j_aload_n C d_SW_addSample_41 0 rfl ?_
  refine j_getR C h0k fl_SW_25 rfl d_SW_addSample_42 ?_
  refine j_getR C (tg_10_0 _ h0k) fl_SW_163 rfl d_SW_addSample_45 ?_
  refine j_iload C d_SW_addSample_48 5 rfl ?_
  refine j_callVi C mv_SW_118 [.int (f_LF_placeOf x1 x2 x3 σ)] [.int (f_MD_foretell (wtg k0 2) x1 x2 x3 x4 σ), .int (f_LF_placeOf x1 x2 x3 σ), .int x1, .ref (fad F (wtg k0 2))] (tg_7_0 _ (tg_10_0 _ h0k)) (c_RO_get (tg_7_0 _ (tg_10_0 _ h0k)) (f_LF_placeOf x1 x2 x3 σ) σ) rfl rfl (by decide) (Nat.le_of_ble_eq_true rfl) d_SW_addSample_50 ?_
  refine j_callVi C mv_SW_166 [.int x1, .int (f_LF_placeOf x1 x2 x3 σ), .int (f_MD_foretell (wtg k0 2) x1 x2 x3 x4 σ), .int (f_RO_get (wtg (wtg k0 0) 0) (f_LF_placeOf x1 x2 x3 σ) σ)] [] (tg_10_2 _ h0k) (c_MD_tell (tg_10_2 _ h0k) x1 (f_LF_placeOf x1 x2 x3 σ) (f_MD_foretell (wtg k0 2) x1 x2 x3 x4 σ) (f_RO_get (wtg (wtg k0 0) 0) (f_LF_placeOf x1 x2 x3 σ) σ) σ) rfl rfl (by decide) (Nat.le_of_ble_eq_true rfl) d_SW_addSample_53 ?_
  refine j_genIM (fun q3 => ?_)
  refine j_istore (lv9 := [(0, .ref (fad F k0)), (1, .int x1), (2, .int x2), (3, .int x3), (4, .int x4), (5, .int (f_LF_placeOf x1 x2 x3 σ)), (6, .int (f_MD_foretell (wtg k0 2) x1 x2 x3 x4 σ)), (7, .int r2), (8, .int q3.1)]) C d_SW_addSample_56 rfl rfl (by decide) ?_
  refine j_aload_n C d_SW_addSample_58 0 rfl ?_
  refine j_getR C h0k fl_SW_38 rfl d_SW_addSample_59 ?_
  refine j_iload C d_SW_addSample_62 8 rfl ?_
  refine j_iload C d_SW_addSample_64 7 rfl ?_
  refine j_bind rfl (fun σ5 e4 => ?_)
  refine j_callVv C mv_SW_170 [.int q3.1, .int r2] [] (tg_10_3 _ h0k) (c_BK_code (tg_10_3 _ h0k) q3.1 r2 q3.2 e4) rfl rfl (by decide) (Nat.le_of_ble_eq_true rfl) d_SW_addSample_66 ?_
  exact j_vret C (fun ρ h => leaf_eq h) d_SW_addSample_69
theorem c_SW_addSample {l : Launch} {D : va_G} {G : GC} {ad : Nat → Nat} {k0 : Nat} (h0k : Is k0 10) (x1 : Int32) (x2 : Int32) (x3 : Int32) (x4 : Int32) (σ : Mem) {q : Mem} (hq : f_SW_addSample k0 x1 x2 x3 x4 σ = some q) : Ctr l D G ad ⟨"LineFrames$StreamWriter", "addSample", "(IIIZ)V"⟩ prog_11_method_13_code 9 none 3 72 [.ref (ad k0), .int x1, .int x2, .int x3, .int x4] σ (.inl none, q) := ctr_J (cv := (cvO cvM)) (E := f_SW_addSample k0 x1 x2 x3 x4 σ) (by decide +kernel) (Nat.le_of_ble_eq_true rfl) (by rw [hq]; rfl) (fun F h C => by subst h; exact w_SW_addSample C h0k x1 x2 x3 x4 σ)
/-! LineFrames$StreamWriter addRow (IIIIZ)V -/
theorem d_SW_addRow_0 : decode prog_11_method_12_code 0 = .ok (.iload_n 3, 1) := by decide +kernel
theorem d_SW_addRow_1 : decode prog_11_method_12_code 1 = .ok (.iconst 2, 1) := by decide +kernel
theorem d_SW_addRow_2 : decode prog_11_method_12_code 2 = .ok (.if_icmp .ne 7, 3) := by decide +kernel
theorem d_SW_addRow_5 : decode prog_11_method_12_code 5 = .ok (.iconst 1, 1) := by decide +kernel
theorem d_SW_addRow_6 : decode prog_11_method_12_code 6 = .ok (.goto 4, 3) := by decide +kernel
theorem d_SW_addRow_9 : decode prog_11_method_12_code 9 = .ok (.iconst 0, 1) := by decide +kernel
theorem d_SW_addRow_10 : decode prog_11_method_12_code 10 = .ok (.istore 6, 2) := by decide +kernel
theorem d_SW_addRow_12 : decode prog_11_method_12_code 12 = .ok (.iload 6, 2) := by decide +kernel
theorem d_SW_addRow_14 : decode prog_11_method_12_code 14 = .ok (.ifCond .eq 13, 3) := by decide +kernel
theorem d_SW_addRow_17 : decode prog_11_method_12_code 17 = .ok (.aload_n 0, 1) := by decide +kernel
theorem d_SW_addRow_18 : decode prog_11_method_12_code 18 = .ok (.getfield 25, 3) := by decide +kernel
theorem d_SW_addRow_21 : decode prog_11_method_12_code 21 = .ok (.getfield 111, 3) := by decide +kernel
theorem d_SW_addRow_24 : decode prog_11_method_12_code 24 = .ok (.goto 4, 3) := by decide +kernel
theorem d_SW_addRow_27 : decode prog_11_method_12_code 27 = .ok (.iload_n 2, 1) := by decide +kernel
theorem d_SW_addRow_28 : decode prog_11_method_12_code 28 = .ok (.istore 7, 2) := by decide +kernel
theorem d_SW_addRow_30 : decode prog_11_method_12_code 30 = .ok (.iload 6, 2) := by decide +kernel
theorem d_SW_addRow_32 : decode prog_11_method_12_code 32 = .ok (.ifCond .eq 7, 3) := by decide +kernel
theorem d_SW_addRow_35 : decode prog_11_method_12_code 35 = .ok (.iload_n 2, 1) := by decide +kernel
theorem d_SW_addRow_36 : decode prog_11_method_12_code 36 = .ok (.goto 10, 3) := by decide +kernel
theorem d_SW_addRow_39 : decode prog_11_method_12_code 39 = .ok (.aload_n 0, 1) := by decide +kernel
theorem d_SW_addRow_40 : decode prog_11_method_12_code 40 = .ok (.getfield 25, 3) := by decide +kernel
theorem d_SW_addRow_43 : decode prog_11_method_12_code 43 = .ok (.getfield 111, 3) := by decide +kernel
theorem d_SW_addRow_46 : decode prog_11_method_12_code 46 = .ok (.istore 8, 2) := by decide +kernel
theorem d_SW_addRow_48 : decode prog_11_method_12_code 48 = .ok (.iconst 0, 1) := by decide +kernel
theorem d_SW_addRow_49 : decode prog_11_method_12_code 49 = .ok (.istore 9, 2) := by decide +kernel
theorem d_SW_addRow_51 : decode prog_11_method_12_code 51 = .ok (.iload 9, 2) := by decide +kernel
theorem d_SW_addRow_53 : decode prog_11_method_12_code 53 = .ok (.iload 7, 2) := by decide +kernel
theorem d_SW_addRow_55 : decode prog_11_method_12_code 55 = .ok (.if_icmp .ge 59, 3) := by decide +kernel
theorem d_SW_addRow_58 : decode prog_11_method_12_code 58 = .ok (.iconst 0, 1) := by decide +kernel
theorem d_SW_addRow_59 : decode prog_11_method_12_code 59 = .ok (.istore 10, 2) := by decide +kernel
theorem d_SW_addRow_61 : decode prog_11_method_12_code 61 = .ok (.iload 10, 2) := by decide +kernel
theorem d_SW_addRow_63 : decode prog_11_method_12_code 63 = .ok (.iload 8, 2) := by decide +kernel
theorem d_SW_addRow_65 : decode prog_11_method_12_code 65 = .ok (.if_icmp .ge 43, 3) := by decide +kernel
theorem d_SW_addRow_68 : decode prog_11_method_12_code 68 = .ok (.aload_n 0, 1) := by decide +kernel
theorem d_SW_addRow_69 : decode prog_11_method_12_code 69 = .ok (.iload_n 1, 1) := by decide +kernel
theorem d_SW_addRow_70 : decode prog_11_method_12_code 70 = .ok (.iload 6, 2) := by decide +kernel
theorem d_SW_addRow_72 : decode prog_11_method_12_code 72 = .ok (.ifCond .eq 8, 3) := by decide +kernel
theorem d_SW_addRow_75 : decode prog_11_method_12_code 75 = .ok (.iload 10, 2) := by decide +kernel
theorem d_SW_addRow_77 : decode prog_11_method_12_code 77 = .ok (.goto 5, 3) := by decide +kernel
theorem d_SW_addRow_80 : decode prog_11_method_12_code 80 = .ok (.iload 9, 2) := by decide +kernel
theorem d_SW_addRow_82 : decode prog_11_method_12_code 82 = .ok (.iadd, 1) := by decide +kernel
theorem d_SW_addRow_83 : decode prog_11_method_12_code 83 = .ok (.iload 6, 2) := by decide +kernel
theorem d_SW_addRow_85 : decode prog_11_method_12_code 85 = .ok (.ifCond .eq 8, 3) := by decide +kernel
theorem d_SW_addRow_88 : decode prog_11_method_12_code 88 = .ok (.iload 9, 2) := by decide +kernel
theorem d_SW_addRow_90 : decode prog_11_method_12_code 90 = .ok (.goto 5, 3) := by decide +kernel
theorem d_SW_addRow_93 : decode prog_11_method_12_code 93 = .ok (.iload 10, 2) := by decide +kernel
theorem d_SW_addRow_95 : decode prog_11_method_12_code 95 = .ok (.iload 4, 2) := by decide +kernel
theorem d_SW_addRow_97 : decode prog_11_method_12_code 97 = .ok (.iload 5, 2) := by decide +kernel
theorem d_SW_addRow_99 : decode prog_11_method_12_code 99 = .ok (.invokevirtual 148, 3) := by decide +kernel
theorem d_SW_addRow_102 : decode prog_11_method_12_code 102 = .ok (.iinc 10 1, 3) := by decide +kernel
theorem d_SW_addRow_105 : decode prog_11_method_12_code 105 = .ok (.goto (-44), 3) := by decide +kernel
theorem d_SW_addRow_108 : decode prog_11_method_12_code 108 = .ok (.iinc 9 1, 3) := by decide +kernel
theorem d_SW_addRow_111 : decode prog_11_method_12_code 111 = .ok (.goto (-60), 3) := by decide +kernel
theorem d_SW_addRow_114 : decode prog_11_method_12_code 114 = .ok (.return_, 1) := by decide +kernel
def L_SW_addRow_61 (r0 : Nat) (b1 : Int32) (b2 : Int32) (b3 : Int32) (b4 : Int32) (b5 : Int32) (b6 : Int32) (b7 : Int32) (b8 : Int32) (b9 : Int32) : Nat → Int32 → Mem →  Option (Int32 × Mem)
  | 0, _, _ => none
  | n + 1, a10, σ =>
  if b8 ≤ a10 then
  some (a10, σ)
  else
  (f_SW_addSample r0 (b1 + (if b6 = 0 then b9 else a10)) (if b6 = 0 then a10 else b9) b4 b5 σ).bind fun σ17 =>
  L_SW_addRow_61 r0 b1 b2 b3 b4 b5 b6 b7 b8 b9 n (a10 + (1 : Int32)) σ17
def L_SW_addRow_51 (r0 : Nat) (b1 : Int32) (b2 : Int32) (b3 : Int32) (b4 : Int32) (b5 : Int32) (b6 : Int32) (b7 : Int32) (b8 : Int32) : Nat → Int32 → Mem →  Option (Int32 × Mem)
  | 0, _, _ => none
  | n + 1, a9, σ =>
  if b7 ≤ a9 then
  some (a9, σ)
  else
  (L_SW_addRow_61 r0 b1 b2 b3 b4 b5 b6 b7 b8 a9 9999 (0 : Int32) σ).bind fun q18 =>
  L_SW_addRow_51 r0 b1 b2 b3 b4 b5 b6 b7 b8 n (a9 + (1 : Int32)) q18.2
def f_SW_addRow (k0 : Nat) (x1 : Int32) (x2 : Int32) (x3 : Int32) (x4 : Int32) (x5 : Int32) (σ : Mem) : Option (Mem) :=
  lt (if x3 = (2 : Int32) then (1 : Int32) else (0 : Int32)) fun v3 =>
  lt (if v3 = 0 then x2 else (σ (wtg k0 0) 5)) fun v6 =>
  lt (if v3 = 0 then (σ (wtg k0 0) 5) else x2) fun v9 =>
  (L_SW_addRow_51 k0 x1 x2 x3 x4 x5 v3 v6 v9 9999 (0 : Int32) σ).bind fun q19 =>
  some (q19.2)
set_option maxHeartbeats 4000000 in
set_option maxRecDepth 100000 in
theorem wL_SW_addRow_61 {F : Fx} (C : Ctx F prog_11_method_12_code 11 "LineFrames$StreamWriter" none 4 100) {cv : Option (Int32 × Mem) → Option Rs} (h0 : cv none = none) (r0 : Nat) (hr0 : Is r0 10) (b1 : Int32) (b2 : Int32) (b3 : Int32) (b4 : Int32) (b5 : Int32) (b6 : Int32) (b7 : Int32) (b8 : Int32) (b9 : Int32) (hex : ∀ q : Int32 × Mem, J F 11 cv (some q) q.2 108 [(0, .ref (fad F r0)), (1, .int b1), (2, .int b2), (3, .int b3), (4, .int b4), (5, .int b5), (6, .int b6), (7, .int b7), (8, .int b8), (9, .int b9), (10, .int q.1)] []) : ∀ (n : Nat) (a10 : Int32) (σ : Mem), J F 11 cv (L_SW_addRow_61 r0 b1 b2 b3 b4 b5 b6 b7 b8 b9 n a10 σ) σ 61 [(0, .ref (fad F r0)), (1, .int b1), (2, .int b2), (3, .int b3), (4, .int b4), (5, .int b5), (6, .int b6), (7, .int b7), (8, .int b8), (9, .int b9), (10, .int a10)] [] := by
  intro n
  induction n with
  | zero => intro a10 σ hE; rw [L_SW_addRow_61, h0] at hE; cases hE
  | succ n ih =>
    intro a10 σ
    rw [L_SW_addRow_61]
    refine j_iload C d_SW_addRow_61 10 rfl ?_
    refine j_iload C d_SW_addRow_63 8 rfl ?_
    refine j_icmp_ge (tgt := 108) C d_SW_addRow_65 (by decide) (fun c11 => ?_) (fun c11 => ?_)
    · exact hex (a10, σ)
    · refine j_aload_n C d_SW_addRow_68 0 rfl ?_
      refine j_iload_n C d_SW_addRow_69 1 rfl ?_
      refine j_iload C d_SW_addRow_70 6 rfl ?_
      refine d_if_eq (a := b9) (b := a10) (jp := 82) (tgt := 80) C d_SW_addRow_72 (by decide) (fun c12 k13 => ?_) (fun c12 k13 => ?_) ?_
      · refine j_iload C d_SW_addRow_80 9 rfl ?_
        exact k13
      · refine j_iload C d_SW_addRow_75 10 rfl ?_
        refine j_goto (tgt := 82) C d_SW_addRow_77 (by decide) ?_
        exact k13
      refine j_iadd C d_SW_addRow_82 ?_
      refine j_iload C d_SW_addRow_83 6 rfl ?_
      refine d_if_eq (a := a10) (b := b9) (jp := 95) (tgt := 93) C d_SW_addRow_85 (by decide) (fun c14 k15 => ?_) (fun c14 k15 => ?_) ?_
      · refine j_iload C d_SW_addRow_93 10 rfl ?_
        exact k15
      · refine j_iload C d_SW_addRow_88 9 rfl ?_
        refine j_goto (tgt := 95) C d_SW_addRow_90 (by decide) ?_
        exact k15
      refine j_iload C d_SW_addRow_95 4 rfl ?_
      refine j_iload C d_SW_addRow_97 5 rfl ?_
      refine j_bind (by exact h0) (fun σ17 e16 => ?_)
      refine j_callVv C mv_SW_148 [.int (b1 + (if b6 = 0 then b9 else a10)), .int (if b6 = 0 then a10 else b9), .int b4, .int b5] [] hr0 (c_SW_addSample hr0 (b1 + (if b6 = 0 then b9 else a10)) (if b6 = 0 then a10 else b9) b4 b5 σ e16) rfl rfl (by decide) (Nat.le_of_ble_eq_true rfl) d_SW_addRow_99 ?_
      refine j_iinc (v := (a10 + (1 : Int32))) (lv9 := [(0, .ref (fad F r0)), (1, .int b1), (2, .int b2), (3, .int b3), (4, .int b4), (5, .int b5), (6, .int b6), (7, .int b7), (8, .int b8), (9, .int b9), (10, .int (a10 + (1 : Int32)))]) C d_SW_addRow_102 10 rfl rfl rfl rfl (by decide) ?_
      refine j_goto (tgt := 61) C d_SW_addRow_105 (by decide) ?_
      exact ih (a10 + (1 : Int32)) σ17
set_option maxHeartbeats 4000000 in
set_option maxRecDepth 100000 in
theorem wL_SW_addRow_51 {F : Fx} (C : Ctx F prog_11_method_12_code 11 "LineFrames$StreamWriter" none 4 100) {cv : Option (Int32 × Mem) → Option Rs} (h0 : cv none = none) (r0 : Nat) (hr0 : Is r0 10) (b1 : Int32) (b2 : Int32) (b3 : Int32) (b4 : Int32) (b5 : Int32) (b6 : Int32) (b7 : Int32) (b8 : Int32) (hex : ∀ q : Int32 × Mem, J F 11 cv (some q) q.2 114 [(0, .ref (fad F r0)), (1, .int b1), (2, .int b2), (3, .int b3), (4, .int b4), (5, .int b5), (6, .int b6), (7, .int b7), (8, .int b8), (9, .int q.1)] []) : ∀ (n : Nat) (a9 : Int32) (σ : Mem), J F 11 cv (L_SW_addRow_51 r0 b1 b2 b3 b4 b5 b6 b7 b8 n a9 σ) σ 51 [(0, .ref (fad F r0)), (1, .int b1), (2, .int b2), (3, .int b3), (4, .int b4), (5, .int b5), (6, .int b6), (7, .int b7), (8, .int b8), (9, .int a9)] [] := by
  intro n
  induction n with
  | zero => intro a9 σ hE; rw [L_SW_addRow_51, h0] at hE; cases hE
  | succ n ih =>
    intro a9 σ
    rw [L_SW_addRow_51]
    refine j_iload C d_SW_addRow_51 9 rfl ?_
    refine j_iload C d_SW_addRow_53 7 rfl ?_
    refine j_icmp_ge (tgt := 114) C d_SW_addRow_55 (by decide) (fun c10 => ?_) (fun c10 => ?_)
    · exact hex (a9, σ)
    · refine j_iconst (v := (0 : Int32)) C d_SW_addRow_58 (by decide) ?_
      refine j_istore (lv9 := [(0, .ref (fad F r0)), (1, .int b1), (2, .int b2), (3, .int b3), (4, .int b4), (5, .int b5), (6, .int b6), (7, .int b7), (8, .int b8), (9, .int a9), (10, .int (0 : Int32))]) C d_SW_addRow_59 rfl rfl (by decide) ?_
      refine j_loop (wL_SW_addRow_61 C (by exact h0) r0 hr0 b1 b2 b3 b4 b5 b6 b7 b8 a9 (fun q18 => j_some ?_) 9999 (0 : Int32) σ)
      refine j_iinc (v := (a9 + (1 : Int32))) (lv9 := [(0, .ref (fad F r0)), (1, .int b1), (2, .int b2), (3, .int b3), (4, .int b4), (5, .int b5), (6, .int b6), (7, .int b7), (8, .int b8), (9, .int (a9 + (1 : Int32))), (10, .int q18.1)]) C d_SW_addRow_108 9 rfl rfl rfl rfl (by decide) ?_
      refine j_goto (tgt := 51) C d_SW_addRow_111 (by decide) ?_
      refine j_sub (lv9 := [(0, .ref (fad F r0)), (1, .int b1), (2, .int b2), (3, .int b3), (4, .int b4), (5, .int b5), (6, .int b6), (7, .int b7), (8, .int b8), (9, .int (a9 + (1 : Int32)))]) [0, 1, 2, 3, 4, 5, 6, 7, 8, 9] rfl ?_
      exact ih (a9 + (1 : Int32)) q18.2
set_option maxHeartbeats 4000000 in
set_option maxRecDepth 100000 in
theorem w_SW_addRow {F : Fx} (C : Ctx F prog_11_method_12_code 11 "LineFrames$StreamWriter" none 4 100) {k0 : Nat} (h0k : Is k0 10) (x1 : Int32) (x2 : Int32) (x3 : Int32) (x4 : Int32) (x5 : Int32) (σ : Mem) : J F 11 (cvO cvM) (f_SW_addRow k0 x1 x2 x3 x4 x5 σ) σ 0 [(0, .ref (fad F k0)), (1, .int x1), (2, .int x2), (3, .int x3), (4, .int x4), (5, .int x5)] [] := by
  unfold f_SW_addRow
  refine j_iload_n C d_SW_addRow_0 3 rfl ?_
  refine j_iconst (v := (2 : Int32)) C d_SW_addRow_1 (by decide) ?_
  refine d_icmp_ne (a := (1 : Int32)) (b := (0 : Int32)) (jp := 10) (tgt := 9) C d_SW_addRow_2 (by decide) (fun c1 k2 => ?_) (fun c1 k2 => ?_) ?_
  · refine j_iconst (v := (0 : Int32)) C d_SW_addRow_9 (by decide) ?_
    exact k2
  · refine j_iconst (v := (1 : Int32)) C d_SW_addRow_5 (by decide) ?_
    refine j_goto (tgt := 10) C d_SW_addRow_6 (by decide) ?_
    exact k2
  refine j_nm (fun v3 v3_e => ?_)
  refine j_istore (lv9 := [(0, .ref (fad F k0)), (1, .int x1), (2, .int x2), (3, .int x3), (4, .int x4), (5, .int x5), (6, .int v3)]) C d_SW_addRow_10 rfl rfl (by decide) ?_
  refine j_iload C d_SW_addRow_12 6 rfl ?_
  refine d_if_eq (a := x2) (b := (σ (wtg k0 0) 5)) (jp := 28) (tgt := 27) C d_SW_addRow_14 (by decide) (fun c4 k5 => ?_) (fun c4 k5 => ?_) ?_
  · refine j_iload_n C d_SW_addRow_27 2 rfl ?_
    exact k5
  · refine j_aload_n C d_SW_addRow_17 0 rfl ?_
    refine j_getR C h0k fl_SW_25 rfl d_SW_addRow_18 ?_
    refine j_getI C (tg_10_0 _ h0k) fl_SW_111 rfl d_SW_addRow_21 ?_
    refine j_goto (tgt := 28) C d_SW_addRow_24 (by decide) ?_
    exact k5
  refine j_nm (fun v6 v6_e => ?_)
  refine j_istore (lv9 := [(0, .ref (fad F k0)), (1, .int x1), (2, .int x2), (3, .int x3), (4, .int x4), (5, .int x5), (6, .int v3), (7, .int v6)]) C d_SW_addRow_28 rfl rfl (by decide) ?_
  refine j_iload C d_SW_addRow_30 6 rfl ?_
  refine d_if_eq (a := (σ (wtg k0 0) 5)) (b := x2) (jp := 46) (tgt := 39) C d_SW_addRow_32 (by decide) (fun c7 k8 => ?_) (fun c7 k8 => ?_) ?_
  · refine j_aload_n C d_SW_addRow_39 0 rfl ?_
    refine j_getR C h0k fl_SW_25 rfl d_SW_addRow_40 ?_
    refine j_getI C (tg_10_0 _ h0k) fl_SW_111 rfl d_SW_addRow_43 ?_
    exact k8
  · refine j_iload_n C d_SW_addRow_35 2 rfl ?_
    refine j_goto (tgt := 46) C d_SW_addRow_36 (by decide) ?_
    exact k8
  refine j_nm (fun v9 v9_e => ?_)
  refine j_istore (lv9 := [(0, .ref (fad F k0)), (1, .int x1), (2, .int x2), (3, .int x3), (4, .int x4), (5, .int x5), (6, .int v3), (7, .int v6), (8, .int v9)]) C d_SW_addRow_46 rfl rfl (by decide) ?_
  refine j_iconst (v := (0 : Int32)) C d_SW_addRow_48 (by decide) ?_
  refine j_istore (lv9 := [(0, .ref (fad F k0)), (1, .int x1), (2, .int x2), (3, .int x3), (4, .int x4), (5, .int x5), (6, .int v3), (7, .int v6), (8, .int v9), (9, .int (0 : Int32))]) C d_SW_addRow_49 rfl rfl (by decide) ?_
  refine j_loop (wL_SW_addRow_51 C rfl k0 h0k x1 x2 x3 x4 x5 v3 v6 v9 (fun q19 => j_some ?_) 9999 (0 : Int32) σ)
  exact j_vret C (fun ρ h => leaf_eq h) d_SW_addRow_114
theorem c_SW_addRow {l : Launch} {D : va_G} {G : GC} {ad : Nat → Nat} {k0 : Nat} (h0k : Is k0 10) (x1 : Int32) (x2 : Int32) (x3 : Int32) (x4 : Int32) (x5 : Int32) (σ : Mem) {q : Mem} (hq : f_SW_addRow k0 x1 x2 x3 x4 x5 σ = some q) : Ctr l D G ad ⟨"LineFrames$StreamWriter", "addRow", "(IIIIZ)V"⟩ prog_11_method_12_code 11 none 4 100 [.ref (ad k0), .int x1, .int x2, .int x3, .int x4, .int x5] σ (.inl none, q) := ctr_J (cv := (cvO cvM)) (E := f_SW_addRow k0 x1 x2 x3 x4 x5 σ) (by decide +kernel) (Nat.le_of_ble_eq_true rfl) (by rw [hq]; rfl) (fun F h C => by subst h; exact w_SW_addRow C h0k x1 x2 x3 x4 x5 σ)
/-! LineFrames$StreamWriter scan (IIII)V -/
theorem d_SW_scan_0 : decode prog_11_method_10_code 0 = .ok (.aload_n 0, 1) := by decide +kernel
theorem d_SW_scan_1 : decode prog_11_method_10_code 1 = .ok (.iload_n 1, 1) := by decide +kernel
theorem d_SW_scan_2 : decode prog_11_method_10_code 2 = .ok (.iload_n 2, 1) := by decide +kernel
theorem d_SW_scan_3 : decode prog_11_method_10_code 3 = .ok (.iload_n 3, 1) := by decide +kernel
theorem d_SW_scan_4 : decode prog_11_method_10_code 4 = .ok (.iload 4, 2) := by decide +kernel
theorem d_SW_scan_6 : decode prog_11_method_10_code 6 = .ok (.invokevirtual 131, 3) := by decide +kernel
theorem d_SW_scan_9 : decode prog_11_method_10_code 9 = .ok (.aload_n 0, 1) := by decide +kernel
theorem d_SW_scan_10 : decode prog_11_method_10_code 10 = .ok (.getfield 19, 3) := by decide +kernel
theorem d_SW_scan_13 : decode prog_11_method_10_code 13 = .ok (.aload_n 0, 1) := by decide +kernel
theorem d_SW_scan_14 : decode prog_11_method_10_code 14 = .ok (.getfield 25, 3) := by decide +kernel
theorem d_SW_scan_17 : decode prog_11_method_10_code 17 = .ok (.iload_n 3, 1) := by decide +kernel
theorem d_SW_scan_18 : decode prog_11_method_10_code 18 = .ok (.invokevirtual 134, 3) := by decide +kernel
theorem d_SW_scan_21 : decode prog_11_method_10_code 21 = .ok (.aload_n 0, 1) := by decide +kernel
theorem d_SW_scan_22 : decode prog_11_method_10_code 22 = .ok (.getfield 25, 3) := by decide +kernel
theorem d_SW_scan_25 : decode prog_11_method_10_code 25 = .ok (.getfield 114, 3) := by decide +kernel
theorem d_SW_scan_28 : decode prog_11_method_10_code 28 = .ok (.iconst 2, 1) := by decide +kernel
theorem d_SW_scan_29 : decode prog_11_method_10_code 29 = .ok (.invokevirtual 118, 3) := by decide +kernel
theorem d_SW_scan_32 : decode prog_11_method_10_code 32 = .ok (.istore 5, 2) := by decide +kernel
theorem d_SW_scan_34 : decode prog_11_method_10_code 34 = .ok (.iconst 0, 1) := by decide +kernel
theorem d_SW_scan_35 : decode prog_11_method_10_code 35 = .ok (.istore 6, 2) := by decide +kernel
theorem d_SW_scan_37 : decode prog_11_method_10_code 37 = .ok (.iconst 0, 1) := by decide +kernel
theorem d_SW_scan_38 : decode prog_11_method_10_code 38 = .ok (.istore 7, 2) := by decide +kernel
theorem d_SW_scan_40 : decode prog_11_method_10_code 40 = .ok (.iconst 0, 1) := by decide +kernel
theorem d_SW_scan_41 : decode prog_11_method_10_code 41 = .ok (.istore 8, 2) := by decide +kernel
theorem d_SW_scan_43 : decode prog_11_method_10_code 43 = .ok (.iload 8, 2) := by decide +kernel
theorem d_SW_scan_45 : decode prog_11_method_10_code 45 = .ok (.aload_n 0, 1) := by decide +kernel
theorem d_SW_scan_46 : decode prog_11_method_10_code 46 = .ok (.getfield 25, 3) := by decide +kernel
theorem d_SW_scan_49 : decode prog_11_method_10_code 49 = .ok (.getfield 108, 3) := by decide +kernel
theorem d_SW_scan_52 : decode prog_11_method_10_code 52 = .ok (.if_icmp .ge 77, 3) := by decide +kernel
theorem d_SW_scan_55 : decode prog_11_method_10_code 55 = .ok (.iload 5, 2) := by decide +kernel
theorem d_SW_scan_57 : decode prog_11_method_10_code 57 = .ok (.ifCond .eq 43, 3) := by decide +kernel
theorem d_SW_scan_60 : decode prog_11_method_10_code 60 = .ok (.iload 7, 2) := by decide +kernel
theorem d_SW_scan_62 : decode prog_11_method_10_code 62 = .ok (.iload 5, 2) := by decide +kernel
theorem d_SW_scan_64 : decode prog_11_method_10_code 64 = .ok (.if_icmp .ne 36, 3) := by decide +kernel
theorem d_SW_scan_67 : decode prog_11_method_10_code 67 = .ok (.aload_n 0, 1) := by decide +kernel
theorem d_SW_scan_68 : decode prog_11_method_10_code 68 = .ok (.getfield 38, 3) := by decide +kernel
theorem d_SW_scan_71 : decode prog_11_method_10_code 71 = .ok (.invokevirtual 138, 3) := by decide +kernel
theorem d_SW_scan_74 : decode prog_11_method_10_code 74 = .ok (.aload_n 0, 1) := by decide +kernel
theorem d_SW_scan_75 : decode prog_11_method_10_code 75 = .ok (.sipush 208, 3) := by decide +kernel
theorem d_SW_scan_78 : decode prog_11_method_10_code 78 = .ok (.iload 6, 2) := by decide +kernel
theorem d_SW_scan_80 : decode prog_11_method_10_code 80 = .ok (.bipush 8, 2) := by decide +kernel
theorem d_SW_scan_82 : decode prog_11_method_10_code 82 = .ok (.irem, 1) := by decide +kernel
theorem d_SW_scan_83 : decode prog_11_method_10_code 83 = .ok (.iadd, 1) := by decide +kernel
theorem d_SW_scan_84 : decode prog_11_method_10_code 84 = .ok (.invokevirtual 47, 3) := by decide +kernel
theorem d_SW_scan_87 : decode prog_11_method_10_code 87 = .ok (.aload_n 0, 1) := by decide +kernel
theorem d_SW_scan_88 : decode prog_11_method_10_code 88 = .ok (.getfield 19, 3) := by decide +kernel
theorem d_SW_scan_91 : decode prog_11_method_10_code 91 = .ok (.invokevirtual 141, 3) := by decide +kernel
theorem d_SW_scan_94 : decode prog_11_method_10_code 94 = .ok (.iinc 6 1, 3) := by decide +kernel
theorem d_SW_scan_97 : decode prog_11_method_10_code 97 = .ok (.iconst 0, 1) := by decide +kernel
theorem d_SW_scan_98 : decode prog_11_method_10_code 98 = .ok (.istore 7, 2) := by decide +kernel
theorem d_SW_scan_100 : decode prog_11_method_10_code 100 = .ok (.aload_n 0, 1) := by decide +kernel
theorem d_SW_scan_101 : decode prog_11_method_10_code 101 = .ok (.iload_n 1, 1) := by decide +kernel
theorem d_SW_scan_102 : decode prog_11_method_10_code 102 = .ok (.iload_n 2, 1) := by decide +kernel
theorem d_SW_scan_103 : decode prog_11_method_10_code 103 = .ok (.iload 4, 2) := by decide +kernel
theorem d_SW_scan_105 : decode prog_11_method_10_code 105 = .ok (.iload 8, 2) := by decide +kernel
theorem d_SW_scan_107 : decode prog_11_method_10_code 107 = .ok (.iload 7, 2) := by decide +kernel
theorem d_SW_scan_109 : decode prog_11_method_10_code 109 = .ok (.ifCond .ne 7, 3) := by decide +kernel
theorem d_SW_scan_112 : decode prog_11_method_10_code 112 = .ok (.iconst 1, 1) := by decide +kernel
theorem d_SW_scan_113 : decode prog_11_method_10_code 113 = .ok (.goto 4, 3) := by decide +kernel
theorem d_SW_scan_116 : decode prog_11_method_10_code 116 = .ok (.iconst 0, 1) := by decide +kernel
theorem d_SW_scan_117 : decode prog_11_method_10_code 117 = .ok (.invokevirtual 144, 3) := by decide +kernel
theorem d_SW_scan_120 : decode prog_11_method_10_code 120 = .ok (.iinc 7 1, 3) := by decide +kernel
theorem d_SW_scan_123 : decode prog_11_method_10_code 123 = .ok (.iinc 8 1, 3) := by decide +kernel
theorem d_SW_scan_126 : decode prog_11_method_10_code 126 = .ok (.goto (-83), 3) := by decide +kernel
theorem d_SW_scan_129 : decode prog_11_method_10_code 129 = .ok (.aload_n 0, 1) := by decide +kernel
theorem d_SW_scan_130 : decode prog_11_method_10_code 130 = .ok (.getfield 38, 3) := by decide +kernel
theorem d_SW_scan_133 : decode prog_11_method_10_code 133 = .ok (.invokevirtual 138, 3) := by decide +kernel
theorem d_SW_scan_136 : decode prog_11_method_10_code 136 = .ok (.return_, 1) := by decide +kernel
def L_SW_scan_43 (r0 : Nat) (b1 : Int32) (b2 : Int32) (b3 : Int32) (b4 : Int32) (b5 : Int32) : Nat → Int32 → Int32 → Int32 → Mem →  Option (Int32 × Int32 × Int32 × Mem)
  | 0, _, _, _, _ => none
  | n + 1, a6, a7, a8, σ =>
  if (σ (wtg r0 0) 6) ≤ a8 then
  some (a6, a7, a8, σ)
  else
  lt (fun (y50 : Int32) (y51 : Int32) (σ52 : Mem) => 
  (f_SW_addRow r0 b1 b2 b4 a8 (if y51 = 0 then (1 : Int32) else (0 : Int32)) σ52).bind fun σ58 =>
  L_SW_scan_43 r0 b1 b2 b3 b4 b5 n y50 (y51 + (1 : Int32)) (a8 + (1 : Int32)) σ58) fun K53 =>
  if b5 = 0 then
  K53 a6 a7 σ
  else
  if a7 = b5 then
  lt (f_BK_close (wtg r0 3) σ) fun σ61 =>
  lt (f_SW_mark r0 ((208 : Int32) + (a6 - a6 / (8 : Int32) * (8 : Int32))) σ61) fun σ62 =>
  (f_MD_renew (wtg r0 2) σ62).bind fun σ64 =>
  K53 (a6 + (1 : Int32)) (0 : Int32) σ64
  else
  K53 a6 a7 σ
def f_SW_scan (k0 : Nat) (x1 : Int32) (x2 : Int32) (x3 : Int32) (x4 : Int32) (σ : Mem) : Option (Mem) :=
  (f_SW_addScanHead k0 x1 x2 x3 x4 σ).bind fun σ2 =>
  (f_MD_begin (wtg k0 2) (wtg k0 0) x3 σ2).bind fun σ4 =>
  lt (f_RO_get (wtg (wtg k0 0) 1) (2 : Int32) σ4) fun v5 =>
  (L_SW_scan_43 k0 x1 x2 x3 x4 v5 9999 (0 : Int32) (0 : Int32) (0 : Int32) σ4).bind fun q65 =>
  lt (f_BK_close (wtg k0 3) q65.2.2.2) fun σ66 =>
  some (σ66)
set_option maxHeartbeats 4000000 in
set_option maxRecDepth 100000 in
theorem wL_SW_scan_43 {F : Fx} (C : Ctx F prog_11_method_10_code 9 "LineFrames$StreamWriter" none 5 130) {cv : Option (Int32 × Int32 × Int32 × Mem) → Option Rs} (h0 : cv none = none) (r0 : Nat) (hr0 : Is r0 10) (b1 : Int32) (b2 : Int32) (b3 : Int32) (b4 : Int32) (b5 : Int32) (hex : ∀ q : Int32 × Int32 × Int32 × Mem, J F 9 cv (some q) q.2.2.2 129 [(0, .ref (fad F r0)), (1, .int b1), (2, .int b2), (3, .int b3), (4, .int b4), (5, .int b5), (6, .int q.1), (7, .int q.2.1), (8, .int q.2.2.1)] []) : ∀ (n : Nat) (a6 : Int32) (a7 : Int32) (a8 : Int32) (σ : Mem), J F 9 cv (L_SW_scan_43 r0 b1 b2 b3 b4 b5 n a6 a7 a8 σ) σ 43 [(0, .ref (fad F r0)), (1, .int b1), (2, .int b2), (3, .int b3), (4, .int b4), (5, .int b5), (6, .int a6), (7, .int a7), (8, .int a8)] [] := by
  intro n
  induction n with
  | zero => intro a6 a7 a8 σ hE; rw [L_SW_scan_43, h0] at hE; cases hE
  | succ n ih =>
    intro a6 a7 a8 σ
    rw [L_SW_scan_43]
    refine j_iload C d_SW_scan_43 8 rfl ?_
    refine j_aload_n C d_SW_scan_45 0 rfl ?_
    refine j_getR C hr0 fl_SW_25 rfl d_SW_scan_46 ?_
    refine j_getI C (tg_10_0 _ hr0) fl_SW_108 rfl d_SW_scan_49 ?_
    refine j_icmp_ge (tgt := 129) C d_SW_scan_52 (by decide) (fun c6 => ?_) (fun c6 => ?_)
    · exact hex (a6, a7, a8, σ)
    · refine j_iload C d_SW_scan_55 5 rfl ?_
      refine j_join2m 100 (fun y50 y51 _ => [(0, .ref (fad F r0)), (1, .int b1), (2, .int b2), (3, .int b3), (4, .int b4), (5, .int b5), (6, .int y50), (7, .int y51), (8, .int a8)]) (fun _ _ _ => []) (fun y50 y51 σ52 => ?_) (fun K53 H54 => ?_)
      · refine j_aload_n C d_SW_scan_100 0 rfl ?_
        refine j_iload_n C d_SW_scan_101 1 rfl ?_
        refine j_iload_n C d_SW_scan_102 2 rfl ?_
        refine j_iload C d_SW_scan_103 4 rfl ?_
        refine j_iload C d_SW_scan_105 8 rfl ?_
        refine j_iload C d_SW_scan_107 7 rfl ?_
        refine d_if_ne (a := (1 : Int32)) (b := (0 : Int32)) (jp := 117) (tgt := 116) C d_SW_scan_109 (by decide) (fun c55 k56 => ?_) (fun c55 k56 => ?_) ?_
        · refine j_iconst (v := (0 : Int32)) C d_SW_scan_116 (by decide) ?_
          exact k56
        · refine j_iconst (v := (1 : Int32)) C d_SW_scan_112 (by decide) ?_
          refine j_goto (tgt := 117) C d_SW_scan_113 (by decide) ?_
          exact k56
        refine j_bind (by exact h0) (fun σ58 e57 => ?_)
        refine j_callVv C mv_SW_144 [.int b1, .int b2, .int b4, .int a8, .int (if y51 = 0 then (1 : Int32) else (0 : Int32))] [] hr0 (c_SW_addRow hr0 b1 b2 b4 a8 (if y51 = 0 then (1 : Int32) else (0 : Int32)) σ52 e57) rfl rfl (by decide) (Nat.le_of_ble_eq_true rfl) d_SW_scan_117 ?_
        refine j_iinc (v := (y51 + (1 : Int32))) (lv9 := [(0, .ref (fad F r0)), (1, .int b1), (2, .int b2), (3, .int b3), (4, .int b4), (5, .int b5), (6, .int y50), (7, .int (y51 + (1 : Int32))), (8, .int a8)]) C d_SW_scan_120 7 rfl rfl rfl rfl (by decide) ?_
        refine j_iinc (v := (a8 + (1 : Int32))) (lv9 := [(0, .ref (fad F r0)), (1, .int b1), (2, .int b2), (3, .int b3), (4, .int b4), (5, .int b5), (6, .int y50), (7, .int (y51 + (1 : Int32))), (8, .int (a8 + (1 : Int32)))]) C d_SW_scan_123 8 rfl rfl rfl rfl (by decide) ?_
        refine j_goto (tgt := 43) C d_SW_scan_126 (by decide) ?_
        exact ih y50 (y51 + (1 : Int32)) (a8 + (1 : Int32)) σ58
      · refine j_if_eq (tgt := 100) C d_SW_scan_57 (by decide) (fun c59 => ?_) (fun c59 => ?_)
        · exact H54 a6 a7 σ
        · refine j_iload C d_SW_scan_60 7 rfl ?_
          refine j_iload C d_SW_scan_62 5 rfl ?_
          refine j_icmp_ne (tgt := 100) C d_SW_scan_64 (by decide) (fun c60 => ?_) (fun c60 => ?_)
          · exact H54 a6 a7 σ
          · refine j_aload_n C d_SW_scan_67 0 rfl ?_
            refine j_getR C hr0 fl_SW_38 rfl d_SW_scan_68 ?_
            refine j_callVv C mv_SW_138 [] [] (tg_10_3 _ hr0) (c_BK_close (tg_10_3 _ hr0) σ) rfl rfl (by decide) (Nat.le_of_ble_eq_true rfl) d_SW_scan_71 ?_
            refine j_genM (fun σ61 => ?_)
            refine j_aload_n C d_SW_scan_74 0 rfl ?_
            refine j_sipush (v := (208 : Int32)) C d_SW_scan_75 (by decide) ?_
            refine j_iload C d_SW_scan_78 6 rfl ?_
            refine j_bipush (v := (8 : Int32)) C d_SW_scan_80 (by decide) ?_
            refine j_irem C d_SW_scan_82 (by decide) ?_
            refine j_iadd C d_SW_scan_83 ?_
            refine j_callVv C mv_SW_47 [.int ((208 : Int32) + (a6 - a6 / (8 : Int32) * (8 : Int32)))] [] hr0 (c_SW_mark hr0 ((208 : Int32) + (a6 - a6 / (8 : Int32) * (8 : Int32))) σ61) rfl rfl (by decide) (Nat.le_of_ble_eq_true rfl) d_SW_scan_84 ?_
            refine j_genM (fun σ62 => ?_)
            refine j_aload_n C d_SW_scan_87 0 rfl ?_
            refine j_getR C hr0 fl_SW_19 rfl d_SW_scan_88 ?_
            refine j_bind (by exact h0) (fun σ64 e63 => ?_)
            refine j_callVv C mv_SW_141 [] [] (tg_10_2 _ hr0) (c_MD_renew (tg_10_2 _ hr0) σ62 e63) rfl rfl (by decide) (Nat.le_of_ble_eq_true rfl) d_SW_scan_91 ?_
            refine j_iinc (v := (a6 + (1 : Int32))) (lv9 := [(0, .ref (fad F r0)), (1, .int b1), (2, .int b2), (3, .int b3), (4, .int b4), (5, .int b5), (6, .int (a6 + (1 : Int32))), (7, .int a7), (8, .int a8)]) C d_SW_scan_94 6 rfl rfl rfl rfl (by decide) ?_
            refine j_iconst (v := (0 : Int32)) C d_SW_scan_97 (by decide) ?_
            refine j_istore (lv9 := [(0, .ref (fad F r0)), (1, .int b1), (2, .int b2), (3, .int b3), (4, .int b4), (5, .int b5), (6, .int (a6 + (1 : Int32))), (7, .int (0 : Int32)), (8, .int a8)]) C d_SW_scan_98 rfl rfl (by decide) ?_
            exact H54 (a6 + (1 : Int32)) (0 : Int32) σ64
set_option maxHeartbeats 4000000 in
set_option maxRecDepth 100000 in
theorem w_SW_scan {F : Fx} (C : Ctx F prog_11_method_10_code 9 "LineFrames$StreamWriter" none 5 130) {k0 : Nat} (h0k : Is k0 10) (x1 : Int32) (x2 : Int32) (x3 : Int32) (x4 : Int32) (σ : Mem) : J F 9 (cvO cvM) (f_SW_scan k0 x1 x2 x3 x4 σ) σ 0 [(0, .ref (fad F k0)), (1, .int x1), (2, .int x2), (3, .int x3), (4, .int x4)] [] := by
  unfold f_SW_scan
  refine j_aload_n C d_SW_scan_0 0 rfl ?_
  refine j_iload_n C d_SW_scan_1 1 rfl ?_
  refine j_iload_n C d_SW_scan_2 2 rfl ?_
  refine j_iload_n C d_SW_scan_3 3 rfl ?_
  refine j_iload C d_SW_scan_4 4 rfl ?_
  refine j_bind rfl (fun σ2 e1 => ?_)
  refine j_callVv C mv_SW_131 [.int x1, .int x2, .int x3, .int x4] [] h0k (c_SW_addScanHead h0k x1 x2 x3 x4 σ e1) rfl rfl (by decide) (Nat.le_of_ble_eq_true rfl) d_SW_scan_6 ?_
  refine j_aload_n C d_SW_scan_9 0 rfl ?_
  refine j_getR C h0k fl_SW_19 rfl d_SW_scan_10 ?_
  refine j_aload_n C d_SW_scan_13 0 rfl ?_
  refine j_getR C h0k fl_SW_25 rfl d_SW_scan_14 ?_
  refine j_iload_n C d_SW_scan_17 3 rfl ?_
  refine j_bind rfl (fun σ4 e3 => ?_)
  refine j_callVv C mv_SW_134 [.ref (fad F (wtg k0 0)), .int x3] [] (tg_10_2 _ h0k) (c_MD_begin (tg_10_2 _ h0k) (tg_10_0 _ h0k) x3 σ2 e3) rfl rfl (by decide) (Nat.le_of_ble_eq_true rfl) d_SW_scan_18 ?_
  refine j_aload_n C d_SW_scan_21 0 rfl ?_
  refine j_getR C h0k fl_SW_25 rfl d_SW_scan_22 ?_
  refine j_getR C (tg_10_0 _ h0k) fl_SW_114 rfl d_SW_scan_25 ?_
  refine j_iconst (v := (2 : Int32)) C d_SW_scan_28 (by decide) ?_
  refine j_callVi C mv_SW_118 [.int (2 : Int32)] [] (tg_7_1 _ (tg_10_0 _ h0k)) (c_RO_get (tg_7_1 _ (tg_10_0 _ h0k)) (2 : Int32) σ4) rfl rfl (by decide) (Nat.le_of_ble_eq_true rfl) d_SW_scan_29 ?_
  refine j_nm (fun v5 v5_e => ?_)
  refine j_istore (lv9 := [(0, .ref (fad F k0)), (1, .int x1), (2, .int x2), (3, .int x3), (4, .int x4), (5, .int v5)]) C d_SW_scan_32 rfl rfl (by decide) ?_
  refine j_iconst (v := (0 : Int32)) C d_SW_scan_34 (by decide) ?_
  refine j_istore (lv9 := [(0, .ref (fad F k0)), (1, .int x1), (2, .int x2), (3, .int x3), (4, .int x4), (5, .int v5), (6, .int (0 : Int32))]) C d_SW_scan_35 rfl rfl (by decide) ?_
  refine j_iconst (v := (0 : Int32)) C d_SW_scan_37 (by decide) ?_
  refine j_istore (lv9 := [(0, .ref (fad F k0)), (1, .int x1), (2, .int x2), (3, .int x3), (4, .int x4), (5, .int v5), (6, .int (0 : Int32)), (7, .int (0 : Int32))]) C d_SW_scan_38 rfl rfl (by decide) ?_
  refine j_iconst (v := (0 : Int32)) C d_SW_scan_40 (by decide) ?_
  refine j_istore (lv9 := [(0, .ref (fad F k0)), (1, .int x1), (2, .int x2), (3, .int x3), (4, .int x4), (5, .int v5), (6, .int (0 : Int32)), (7, .int (0 : Int32)), (8, .int (0 : Int32))]) C d_SW_scan_41 rfl rfl (by decide) ?_
  refine j_loop (wL_SW_scan_43 C rfl k0 h0k x1 x2 x3 x4 v5 (fun q65 => j_some ?_) 9999 (0 : Int32) (0 : Int32) (0 : Int32) σ4)
  refine j_aload_n C d_SW_scan_129 0 rfl ?_
  refine j_getR C h0k fl_SW_38 rfl d_SW_scan_130 ?_
  refine j_callVv C mv_SW_138 [] [] (tg_10_3 _ h0k) (c_BK_close (tg_10_3 _ h0k) q65.2.2.2) rfl rfl (by decide) (Nat.le_of_ble_eq_true rfl) d_SW_scan_133 ?_
  refine j_genM (fun σ66 => ?_)
  exact j_vret C (fun ρ h => leaf_eq h) d_SW_scan_136
theorem c_SW_scan {l : Launch} {D : va_G} {G : GC} {ad : Nat → Nat} {k0 : Nat} (h0k : Is k0 10) (x1 : Int32) (x2 : Int32) (x3 : Int32) (x4 : Int32) (σ : Mem) {q : Mem} (hq : f_SW_scan k0 x1 x2 x3 x4 σ = some q) : Ctr l D G ad ⟨"LineFrames$StreamWriter", "scan", "(IIII)V"⟩ prog_11_method_10_code 9 none 5 130 [.ref (ad k0), .int x1, .int x2, .int x3, .int x4] σ (.inl none, q) := ctr_J (cv := (cvO cvM)) (E := f_SW_scan k0 x1 x2 x3 x4 σ) (by decide +kernel) (Nat.le_of_ble_eq_true rfl) (by rw [hq]; rfl) (fun F h C => by subst h; exact w_SW_scan C h0k x1 x2 x3 x4 σ)
/-! LineFrames$StreamWriter stream (II)V -/
theorem d_SW_stream_0 : decode prog_11_method_2_code 0 = .ok (.aload_n 0, 1) := by decide +kernel
theorem d_SW_stream_1 : decode prog_11_method_2_code 1 = .ok (.getfield 29, 3) := by decide +kernel
theorem d_SW_stream_4 : decode prog_11_method_2_code 4 = .ok (.invokevirtual 42, 3) := by decide +kernel
theorem d_SW_stream_7 : decode prog_11_method_2_code 7 = .ok (.aload_n 0, 1) := by decide +kernel
theorem d_SW_stream_8 : decode prog_11_method_2_code 8 = .ok (.sipush 216, 3) := by decide +kernel
theorem d_SW_stream_11 : decode prog_11_method_2_code 11 = .ok (.invokevirtual 47, 3) := by decide +kernel
theorem d_SW_stream_14 : decode prog_11_method_2_code 14 = .ok (.aload_n 0, 1) := by decide +kernel
theorem d_SW_stream_15 : decode prog_11_method_2_code 15 = .ok (.invokevirtual 50, 3) := by decide +kernel
theorem d_SW_stream_18 : decode prog_11_method_2_code 18 = .ok (.aload_n 0, 1) := by decide +kernel
theorem d_SW_stream_19 : decode prog_11_method_2_code 19 = .ok (.invokevirtual 53, 3) := by decide +kernel
theorem d_SW_stream_22 : decode prog_11_method_2_code 22 = .ok (.aload_n 0, 1) := by decide +kernel
theorem d_SW_stream_23 : decode prog_11_method_2_code 23 = .ok (.invokevirtual 56, 3) := by decide +kernel
theorem d_SW_stream_26 : decode prog_11_method_2_code 26 = .ok (.aload_n 0, 1) := by decide +kernel
theorem d_SW_stream_27 : decode prog_11_method_2_code 27 = .ok (.invokevirtual 59, 3) := by decide +kernel
theorem d_SW_stream_30 : decode prog_11_method_2_code 30 = .ok (.aload_n 0, 1) := by decide +kernel
theorem d_SW_stream_31 : decode prog_11_method_2_code 31 = .ok (.invokevirtual 62, 3) := by decide +kernel
theorem d_SW_stream_34 : decode prog_11_method_2_code 34 = .ok (.iload_n 1, 1) := by decide +kernel
theorem d_SW_stream_35 : decode prog_11_method_2_code 35 = .ok (.ifCond .ne 33, 3) := by decide +kernel
theorem d_SW_stream_38 : decode prog_11_method_2_code 38 = .ok (.iconst 0, 1) := by decide +kernel
theorem d_SW_stream_39 : decode prog_11_method_2_code 39 = .ok (.istore_n 3, 1) := by decide +kernel
theorem d_SW_stream_40 : decode prog_11_method_2_code 40 = .ok (.iload_n 3, 1) := by decide +kernel
theorem d_SW_stream_41 : decode prog_11_method_2_code 41 = .ok (.aload_n 0, 1) := by decide +kernel
theorem d_SW_stream_42 : decode prog_11_method_2_code 42 = .ok (.getfield 25, 3) := by decide +kernel
theorem d_SW_stream_45 : decode prog_11_method_2_code 45 = .ok (.getfield 65, 3) := by decide +kernel
theorem d_SW_stream_48 : decode prog_11_method_2_code 48 = .ok (.if_icmp .ge 17, 3) := by decide +kernel
theorem d_SW_stream_51 : decode prog_11_method_2_code 51 = .ok (.aload_n 0, 1) := by decide +kernel
theorem d_SW_stream_52 : decode prog_11_method_2_code 52 = .ok (.iload_n 3, 1) := by decide +kernel
theorem d_SW_stream_53 : decode prog_11_method_2_code 53 = .ok (.iconst 1, 1) := by decide +kernel
theorem d_SW_stream_54 : decode prog_11_method_2_code 54 = .ok (.iload_n 2, 1) := by decide +kernel
theorem d_SW_stream_55 : decode prog_11_method_2_code 55 = .ok (.iconst 0, 1) := by decide +kernel
theorem d_SW_stream_56 : decode prog_11_method_2_code 56 = .ok (.invokevirtual 71, 3) := by decide +kernel
theorem d_SW_stream_59 : decode prog_11_method_2_code 59 = .ok (.iinc 3 1, 3) := by decide +kernel
theorem d_SW_stream_62 : decode prog_11_method_2_code 62 = .ok (.goto (-22), 3) := by decide +kernel
theorem d_SW_stream_65 : decode prog_11_method_2_code 65 = .ok (.goto 32, 3) := by decide +kernel
theorem d_SW_stream_68 : decode prog_11_method_2_code 68 = .ok (.aload_n 0, 1) := by decide +kernel
theorem d_SW_stream_69 : decode prog_11_method_2_code 69 = .ok (.iconst 0, 1) := by decide +kernel
theorem d_SW_stream_70 : decode prog_11_method_2_code 70 = .ok (.aload_n 0, 1) := by decide +kernel
theorem d_SW_stream_71 : decode prog_11_method_2_code 71 = .ok (.getfield 25, 3) := by decide +kernel
theorem d_SW_stream_74 : decode prog_11_method_2_code 74 = .ok (.getfield 65, 3) := by decide +kernel
theorem d_SW_stream_77 : decode prog_11_method_2_code 77 = .ok (.iload_n 2, 1) := by decide +kernel
theorem d_SW_stream_78 : decode prog_11_method_2_code 78 = .ok (.aload_n 0, 1) := by decide +kernel
theorem d_SW_stream_79 : decode prog_11_method_2_code 79 = .ok (.getfield 25, 3) := by decide +kernel
theorem d_SW_stream_82 : decode prog_11_method_2_code 82 = .ok (.getfield 65, 3) := by decide +kernel
theorem d_SW_stream_85 : decode prog_11_method_2_code 85 = .ok (.iconst 1, 1) := by decide +kernel
theorem d_SW_stream_86 : decode prog_11_method_2_code 86 = .ok (.if_icmp .ne 7, 3) := by decide +kernel
theorem d_SW_stream_89 : decode prog_11_method_2_code 89 = .ok (.iconst 0, 1) := by decide +kernel
theorem d_SW_stream_90 : decode prog_11_method_2_code 90 = .ok (.goto 4, 3) := by decide +kernel
theorem d_SW_stream_93 : decode prog_11_method_2_code 93 = .ok (.iload_n 1, 1) := by decide +kernel
theorem d_SW_stream_94 : decode prog_11_method_2_code 94 = .ok (.invokevirtual 71, 3) := by decide +kernel
theorem d_SW_stream_97 : decode prog_11_method_2_code 97 = .ok (.aload_n 0, 1) := by decide +kernel
theorem d_SW_stream_98 : decode prog_11_method_2_code 98 = .ok (.sipush 217, 3) := by decide +kernel
theorem d_SW_stream_101 : decode prog_11_method_2_code 101 = .ok (.invokevirtual 47, 3) := by decide +kernel
theorem d_SW_stream_104 : decode prog_11_method_2_code 104 = .ok (.return_, 1) := by decide +kernel
def L_SW_stream_40 (r0 : Nat) (b1 : Int32) (b2 : Int32) : Nat → Int32 → Mem →  Option (Int32 × Mem)
  | 0, _, _ => none
  | n + 1, a3, σ =>
  if (σ (wtg r0 0) 8) ≤ a3 then
  some (a3, σ)
  else
  (f_SW_scan r0 a3 (1 : Int32) b2 (0 : Int32) σ).bind fun σ39 =>
  L_SW_stream_40 r0 b1 b2 n (a3 + (1 : Int32)) σ39
def f_SW_stream (k0 : Nat) (x1 : Int32) (x2 : Int32) (σ : Mem) : Option (Mem) :=
  lt (f_BY_clear (wtg k0 1) σ) fun σ1 =>
  lt (f_SW_mark k0 (216 : Int32) σ1) fun σ2 =>
  (f_SW_addNotes k0 σ2).bind fun σ4 =>
  (f_SW_addFrame k0 σ4).bind fun σ6 =>
  lt (f_SW_addPresets k0 σ6) fun σ7 =>
  (f_SW_addTables k0 σ7).bind fun σ9 =>
  lt (f_SW_addRestarts k0 σ9) fun σ10 =>
  lt (fun  (σ28 : Mem) => 
  lt (f_SW_mark k0 (217 : Int32) σ28) fun σ31 =>
  some (σ31)) fun K29 =>
  if x1 = 0 then
  (L_SW_stream_40 k0 x1 x2 9999 (0 : Int32) σ10).bind fun q40 =>
  K29 q40.2
  else
  (f_SW_scan k0 (0 : Int32) (σ10 (wtg k0 0) 8) x2 (if (σ10 (wtg k0 0) 8) = (1 : Int32) then (0 : Int32) else x1) σ10).bind fun σ36 =>
  K29 σ36
set_option maxHeartbeats 4000000 in
set_option maxRecDepth 100000 in
theorem wL_SW_stream_40 {F : Fx} (C : Ctx F prog_11_method_2_code 4 "LineFrames$StreamWriter" none 6 158) {cv : Option (Int32 × Mem) → Option Rs} (h0 : cv none = none) (r0 : Nat) (hr0 : Is r0 10) (b1 : Int32) (b2 : Int32) (hex : ∀ q : Int32 × Mem, J F 4 cv (some q) q.2 65 [(0, .ref (fad F r0)), (1, .int b1), (2, .int b2), (3, .int q.1)] []) : ∀ (n : Nat) (a3 : Int32) (σ : Mem), J F 4 cv (L_SW_stream_40 r0 b1 b2 n a3 σ) σ 40 [(0, .ref (fad F r0)), (1, .int b1), (2, .int b2), (3, .int a3)] [] := by
  intro n
  induction n with
  | zero => intro a3 σ hE; rw [L_SW_stream_40, h0] at hE; cases hE
  | succ n ih =>
    intro a3 σ
    rw [L_SW_stream_40]
    refine j_iload_n C d_SW_stream_40 3 rfl ?_
    refine j_aload_n C d_SW_stream_41 0 rfl ?_
    refine j_getR C hr0 fl_SW_25 rfl d_SW_stream_42 ?_
    refine j_getI C (tg_10_0 _ hr0) fl_SW_65 rfl d_SW_stream_45 ?_
    refine j_icmp_ge (tgt := 65) C d_SW_stream_48 (by decide) (fun c37 => ?_) (fun c37 => ?_)
    · exact hex (a3, σ)
    · refine j_aload_n C d_SW_stream_51 0 rfl ?_
      refine j_iload_n C d_SW_stream_52 3 rfl ?_
      refine j_iconst (v := (1 : Int32)) C d_SW_stream_53 (by decide) ?_
      refine j_iload_n C d_SW_stream_54 2 rfl ?_
      refine j_iconst (v := (0 : Int32)) C d_SW_stream_55 (by decide) ?_
      refine j_bind (by exact h0) (fun σ39 e38 => ?_)
      refine j_callVv C mv_SW_71 [.int a3, .int (1 : Int32), .int b2, .int (0 : Int32)] [] hr0 (c_SW_scan hr0 a3 (1 : Int32) b2 (0 : Int32) σ e38) rfl rfl (by decide) (Nat.le_of_ble_eq_true rfl) d_SW_stream_56 ?_
      refine j_iinc (v := (a3 + (1 : Int32))) (lv9 := [(0, .ref (fad F r0)), (1, .int b1), (2, .int b2), (3, .int (a3 + (1 : Int32)))]) C d_SW_stream_59 3 rfl rfl rfl rfl (by decide) ?_
      refine j_goto (tgt := 40) C d_SW_stream_62 (by decide) ?_
      exact ih (a3 + (1 : Int32)) σ39
set_option maxHeartbeats 4000000 in
set_option maxRecDepth 100000 in
theorem w_SW_stream {F : Fx} (C : Ctx F prog_11_method_2_code 4 "LineFrames$StreamWriter" none 6 158) {k0 : Nat} (h0k : Is k0 10) (x1 : Int32) (x2 : Int32) (σ : Mem) : J F 4 (cvO cvM) (f_SW_stream k0 x1 x2 σ) σ 0 [(0, .ref (fad F k0)), (1, .int x1), (2, .int x2)] [] := by
  unfold f_SW_stream
  refine j_aload_n C d_SW_stream_0 0 rfl ?_
  refine j_getR C h0k fl_SW_29 rfl d_SW_stream_1 ?_
  refine j_callVv C mv_SW_42 [] [] (tg_10_1 _ h0k) (c_BY_clear (tg_10_1 _ h0k) σ) rfl rfl (by decide) (Nat.le_of_ble_eq_true rfl) d_SW_stream_4 ?_
  refine j_genM (fun σ1 => ?_)
  refine j_aload_n C d_SW_stream_7 0 rfl ?_
  refine j_sipush (v := (216 : Int32)) C d_SW_stream_8 (by decide) ?_
  refine j_callVv C mv_SW_47 [.int (216 : Int32)] [] h0k (c_SW_mark h0k (216 : Int32) σ1) rfl rfl (by decide) (Nat.le_of_ble_eq_true rfl) d_SW_stream_11 ?_
  refine j_genM (fun σ2 => ?_)
  refine j_aload_n C d_SW_stream_14 0 rfl ?_
  refine j_bind rfl (fun σ4 e3 => ?_)
  refine j_callVv C mv_SW_50 [] [] h0k (c_SW_addNotes h0k σ2 e3) rfl rfl (by decide) (Nat.le_of_ble_eq_true rfl) d_SW_stream_15 ?_
  refine j_aload_n C d_SW_stream_18 0 rfl ?_
  refine j_bind rfl (fun σ6 e5 => ?_)
  refine j_callVv C mv_SW_53 [] [] h0k (c_SW_addFrame h0k σ4 e5) rfl rfl (by decide) (Nat.le_of_ble_eq_true rfl) d_SW_stream_19 ?_
  refine j_aload_n C d_SW_stream_22 0 rfl ?_
  refine j_callVv C mv_SW_56 [] [] h0k (c_SW_addPresets h0k σ6) rfl rfl (by decide) (Nat.le_of_ble_eq_true rfl) d_SW_stream_23 ?_
  refine j_genM (fun σ7 => ?_)
  refine j_aload_n C d_SW_stream_26 0 rfl ?_
  refine j_bind rfl (fun σ9 e8 => ?_)
  refine j_callVv C mv_SW_59 [] [] h0k (c_SW_addTables h0k σ7 e8) rfl rfl (by decide) (Nat.le_of_ble_eq_true rfl) d_SW_stream_27 ?_
  refine j_aload_n C d_SW_stream_30 0 rfl ?_
  refine j_callVv C mv_SW_62 [] [] h0k (c_SW_addRestarts h0k σ9) rfl rfl (by decide) (Nat.le_of_ble_eq_true rfl) d_SW_stream_31 ?_
  refine j_genM (fun σ10 => ?_)
  refine j_iload_n C d_SW_stream_34 1 rfl ?_
  refine j_join0m 97 (fun _ => [(0, .ref (fad F k0)), (1, .int x1), (2, .int x2)]) (fun _ => []) (fun σ28 => ?_) (fun K29 H30 => ?_)
  · refine j_aload_n C d_SW_stream_97 0 rfl ?_
    refine j_sipush (v := (217 : Int32)) C d_SW_stream_98 (by decide) ?_
    refine j_callVv C mv_SW_47 [.int (217 : Int32)] [] h0k (c_SW_mark h0k (217 : Int32) σ28) rfl rfl (by decide) (Nat.le_of_ble_eq_true rfl) d_SW_stream_101 ?_
    refine j_genM (fun σ31 => ?_)
    exact j_vret C (fun ρ h => leaf_eq h) d_SW_stream_104
  · refine j_if_ne (tgt := 68) C d_SW_stream_35 (by decide) (fun c32 => ?_) (fun c32 => ?_)
    · refine j_aload_n C d_SW_stream_68 0 rfl ?_
      refine j_iconst (v := (0 : Int32)) C d_SW_stream_69 (by decide) ?_
      refine j_aload_n C d_SW_stream_70 0 rfl ?_
      refine j_getR C h0k fl_SW_25 rfl d_SW_stream_71 ?_
      refine j_getI C (tg_10_0 _ h0k) fl_SW_65 rfl d_SW_stream_74 ?_
      refine j_iload_n C d_SW_stream_77 2 rfl ?_
      refine j_aload_n C d_SW_stream_78 0 rfl ?_
      refine j_getR C h0k fl_SW_25 rfl d_SW_stream_79 ?_
      refine j_getI C (tg_10_0 _ h0k) fl_SW_65 rfl d_SW_stream_82 ?_
      refine j_iconst (v := (1 : Int32)) C d_SW_stream_85 (by decide) ?_
      refine d_icmp_ne (a := (0 : Int32)) (b := x1) (jp := 94) (tgt := 93) C d_SW_stream_86 (by decide) (fun c33 k34 => ?_) (fun c33 k34 => ?_) ?_
      · refine j_iload_n C d_SW_stream_93 1 rfl ?_
        exact k34
      · refine j_iconst (v := (0 : Int32)) C d_SW_stream_89 (by decide) ?_
        refine j_goto (tgt := 94) C d_SW_stream_90 (by decide) ?_
        exact k34
      refine j_bind rfl (fun σ36 e35 => ?_)
      refine j_callVv C mv_SW_71 [.int (0 : Int32), .int (σ10 (wtg k0 0) 8), .int x2, .int (if (σ10 (wtg k0 0) 8) = (1 : Int32) then (0 : Int32) else x1)] [] h0k (c_SW_scan h0k (0 : Int32) (σ10 (wtg k0 0) 8) x2 (if (σ10 (wtg k0 0) 8) = (1 : Int32) then (0 : Int32) else x1) σ10 e35) rfl rfl (by decide) (Nat.le_of_ble_eq_true rfl) d_SW_stream_94 ?_
      exact H30 σ36
    · refine j_iconst (v := (0 : Int32)) C d_SW_stream_38 (by decide) ?_
      refine j_istore_n (lv9 := [(0, .ref (fad F k0)), (1, .int x1), (2, .int x2), (3, .int (0 : Int32))]) C d_SW_stream_39 rfl rfl (by decide) ?_
      refine j_loop (wL_SW_stream_40 C rfl k0 h0k x1 x2 (fun q40 => j_some ?_) 9999 (0 : Int32) σ10)
      refine j_goto (tgt := 97) C d_SW_stream_65 (by decide) ?_
      refine j_sub (lv9 := [(0, .ref (fad F k0)), (1, .int x1), (2, .int x2)]) [0, 1, 2] rfl ?_
      exact H30 q40.2
theorem c_SW_stream {l : Launch} {D : va_G} {G : GC} {ad : Nat → Nat} {k0 : Nat} (h0k : Is k0 10) (x1 : Int32) (x2 : Int32) (σ : Mem) {q : Mem} (hq : f_SW_stream k0 x1 x2 σ = some q) : Ctr l D G ad ⟨"LineFrames$StreamWriter", "stream", "(II)V"⟩ prog_11_method_2_code 4 none 6 158 [.ref (ad k0), .int x1, .int x2] σ (.inl none, q) := ctr_J (cv := (cvO cvM)) (E := f_SW_stream k0 x1 x2 σ) (by decide +kernel) (Nat.le_of_ble_eq_true rfl) (by rw [hq]; rfl) (fun F h C => by subst h; exact w_SW_stream C h0k x1 x2 σ)
/-! LineFrames write (I)I -/
theorem d_LF_write_0 : decode prog_1_method_8_code 0 = .ok (.aload_n 0, 1) := by decide +kernel
theorem d_LF_write_1 : decode prog_1_method_8_code 1 = .ok (.invokevirtual 75, 3) := by decide +kernel
theorem d_LF_write_4 : decode prog_1_method_8_code 4 = .ok (.iload_n 1, 1) := by decide +kernel
theorem d_LF_write_5 : decode prog_1_method_8_code 5 = .ok (.ifCond .lt 8, 3) := by decide +kernel
theorem d_LF_write_8 : decode prog_1_method_8_code 8 = .ok (.iload_n 1, 1) := by decide +kernel
theorem d_LF_write_9 : decode prog_1_method_8_code 9 = .ok (.iconst 3, 1) := by decide +kernel
theorem d_LF_write_10 : decode prog_1_method_8_code 10 = .ok (.if_icmp .le 13, 3) := by decide +kernel
theorem d_LF_write_13 : decode prog_1_method_8_code 13 = .ok (.new 61, 3) := by decide +kernel
theorem d_LF_write_16 : decode prog_1_method_8_code 16 = .ok (.dup, 1) := by decide +kernel
theorem d_LF_write_17 : decode prog_1_method_8_code 17 = .ok (.ldc 178, 2) := by decide +kernel
theorem d_LF_write_19 : decode prog_1_method_8_code 19 = .ok (.invokespecial 65, 3) := by decide +kernel
theorem d_LF_write_22 : decode prog_1_method_8_code 22 = .ok (.athrow, 1) := by decide +kernel
theorem d_LF_write_23 : decode prog_1_method_8_code 23 = .ok (.aload_n 0, 1) := by decide +kernel
theorem d_LF_write_24 : decode prog_1_method_8_code 24 = .ok (.getfield 44, 3) := by decide +kernel
theorem d_LF_write_27 : decode prog_1_method_8_code 27 = .ok (.aload_n 0, 1) := by decide +kernel
theorem d_LF_write_28 : decode prog_1_method_8_code 28 = .ok (.getfield 18, 3) := by decide +kernel
theorem d_LF_write_31 : decode prog_1_method_8_code 31 = .ok (.iload_n 1, 1) := by decide +kernel
theorem d_LF_write_32 : decode prog_1_method_8_code 32 = .ok (.invokevirtual 180, 3) := by decide +kernel
theorem d_LF_write_35 : decode prog_1_method_8_code 35 = .ok (.aload_n 0, 1) := by decide +kernel
theorem d_LF_write_36 : decode prog_1_method_8_code 36 = .ok (.getfield 32, 3) := by decide +kernel
theorem d_LF_write_39 : decode prog_1_method_8_code 39 = .ok (.invokevirtual 183, 3) := by decide +kernel
theorem d_LF_write_42 : decode prog_1_method_8_code 42 = .ok (.ireturn, 1) := by decide +kernel
def f_LF_write (k0 : Nat) (x1 : Int32) (σ : Mem) : Option ((Int32 ⊕ Nat) × Mem) :=
  xcase (f_LF_wantPicture k0 σ) (fun _ =>
  if x1 < 0 then
  some ((.inr 3), σ)
  else
  if x1 ≤ (3 : Int32) then
  (f_SW_stream (wtg k0 4) (σ k0 0) x1 σ).bind fun σ15 =>
  some ((.inl (f_BY_size (wtg k0 2) σ15)), σ15)
  else
  some ((.inr 3), σ)) (fun n => some ((.inr n), σ))
set_option maxHeartbeats 4000000 in
set_option maxRecDepth 100000 in
theorem w_LF_write {F : Fx} (C : Ctx F prog_1_method_8_code 2 "LineFrames" (some .int) 7 181) {k0 : Nat} (h0k : Is k0 0) (x1 : Int32) (σ : Mem) : J F 2 (cvO cvXIM) (f_LF_write k0 x1 σ) σ 0 [(0, .ref (fad F k0)), (1, .int x1)] [] := by
  unfold f_LF_write
  refine j_aload_n C d_LF_write_0 0 rfl ?_
  refine j_xcase (fun _ e1 => ?_) (fun n e1 => ?_)
  · refine j_callVv C mv_LF_75 [] [] h0k (ctr_xl e1 (c_LF_wantPicture h0k σ)) rfl rfl (by decide) (Nat.le_of_ble_eq_true rfl) d_LF_write_1 ?_
    refine j_iload_n C d_LF_write_4 1 rfl ?_
    refine j_if_lt (tgt := 13) C d_LF_write_5 (by decide) (fun c12 => ?_) (fun c12 => ?_)
    · exact j_throw C ox_LF_61_65 (List.mem_of_getElem? (i := 12) rfl) (by decide) (Nat.le_of_ble_eq_true rfl) d_LF_write_13 d_LF_write_16 d_LF_write_17 d_LF_write_19 d_LF_write_22 (fun ρ h => leaf_eq h)
    · refine j_iload_n C d_LF_write_8 1 rfl ?_
      refine j_iconst (v := (3 : Int32)) C d_LF_write_9 (by decide) ?_
      refine j_icmp_le (tgt := 23) C d_LF_write_10 (by decide) (fun c13 => ?_) (fun c13 => ?_)
      · refine j_aload_n C d_LF_write_23 0 rfl ?_
        refine j_getR C h0k fl_LF_44 rfl d_LF_write_24 ?_
        refine j_aload_n C d_LF_write_27 0 rfl ?_
        refine j_getI C h0k fl_LF_18 rfl d_LF_write_28 ?_
        refine j_iload_n C d_LF_write_31 1 rfl ?_
        refine j_bind rfl (fun σ15 e14 => ?_)
        refine j_callVv C mv_LF_180 [.int (σ k0 0), .int x1] [] (tg_0_4 _ h0k) (c_SW_stream (tg_0_4 _ h0k) (σ k0 0) x1 σ e14) rfl rfl (by decide) (Nat.le_of_ble_eq_true rfl) d_LF_write_32 ?_
        refine j_aload_n C d_LF_write_35 0 rfl ?_
        refine j_getR C h0k fl_LF_32 rfl d_LF_write_36 ?_
        refine j_callVi C mv_LF_183 [] [] (tg_0_2 _ h0k) (c_BY_size (tg_0_2 _ h0k) σ15) rfl rfl (by decide) (Nat.le_of_ble_eq_true rfl) d_LF_write_39 ?_
        exact j_ireti C (fun ρ h => leaf_eq h) d_LF_write_42
      · exact j_throw C ox_LF_61_65 (List.mem_of_getElem? (i := 12) rfl) (by decide) (Nat.le_of_ble_eq_true rfl) d_LF_write_13 d_LF_write_16 d_LF_write_17 d_LF_write_19 d_LF_write_22 (fun ρ h => leaf_eq h)
  · refine j_callVx C mv_LF_75 [] [] h0k (ctr_xr e1 (c_LF_wantPicture h0k σ)) rfl rfl (by decide) (Nat.le_of_ble_eq_true rfl) d_LF_write_1 (fun ρ h => leaf_eq h)
theorem c_LF_write {l : Launch} {D : va_G} {G : GC} {ad : Nat → Nat} {k0 : Nat} (h0k : Is k0 0) (x1 : Int32) (σ : Mem) {q : (Int32 ⊕ Nat) × Mem} (hq : f_LF_write k0 x1 σ = some q) : Ctr l D G ad ⟨"LineFrames", "write", "(I)I"⟩ prog_1_method_8_code 2 (some .int) 7 181 [.ref (ad k0), .int x1] σ (xrIM q) := ctr_J (cv := (cvO cvXIM)) (E := f_LF_write k0 x1 σ) (by decide +kernel) (Nat.le_of_ble_eq_true rfl) (by rw [hq]; exact xrIM_ok _) (fun F h C => by subst h; exact w_LF_write C h0k x1 σ)
/-! LineFrames byteAt (I)I -/
theorem d_LF_byteAt_0 : decode prog_1_method_9_code 0 = .ok (.aload_n 0, 1) := by decide +kernel
theorem d_LF_byteAt_1 : decode prog_1_method_9_code 1 = .ok (.getfield 32, 3) := by decide +kernel
theorem d_LF_byteAt_4 : decode prog_1_method_9_code 4 = .ok (.iload_n 1, 1) := by decide +kernel
theorem d_LF_byteAt_5 : decode prog_1_method_9_code 5 = .ok (.invokevirtual 187, 3) := by decide +kernel
theorem d_LF_byteAt_8 : decode prog_1_method_9_code 8 = .ok (.ifCond .ne 13, 3) := by decide +kernel
theorem d_LF_byteAt_11 : decode prog_1_method_9_code 11 = .ok (.new 82, 3) := by decide +kernel
theorem d_LF_byteAt_14 : decode prog_1_method_9_code 14 = .ok (.dup, 1) := by decide +kernel
theorem d_LF_byteAt_15 : decode prog_1_method_9_code 15 = .ok (.ldc 188, 2) := by decide +kernel
theorem d_LF_byteAt_17 : decode prog_1_method_9_code 17 = .ok (.invokespecial 86, 3) := by decide +kernel
theorem d_LF_byteAt_20 : decode prog_1_method_9_code 20 = .ok (.athrow, 1) := by decide +kernel
theorem d_LF_byteAt_21 : decode prog_1_method_9_code 21 = .ok (.aload_n 0, 1) := by decide +kernel
theorem d_LF_byteAt_22 : decode prog_1_method_9_code 22 = .ok (.getfield 32, 3) := by decide +kernel
theorem d_LF_byteAt_25 : decode prog_1_method_9_code 25 = .ok (.iload_n 1, 1) := by decide +kernel
theorem d_LF_byteAt_26 : decode prog_1_method_9_code 26 = .ok (.invokevirtual 190, 3) := by decide +kernel
theorem d_LF_byteAt_29 : decode prog_1_method_9_code 29 = .ok (.ireturn, 1) := by decide +kernel
def f_LF_byteAt (k0 : Nat) (x1 : Int32) (σ : Mem) : (Int32 ⊕ Nat) :=
  if (f_BY_has (wtg k0 2) x1 σ) = 0 then
  (.inr 2)
  else
  (.inl (f_BY_get (wtg k0 2) x1 σ))
set_option maxHeartbeats 4000000 in
set_option maxRecDepth 100000 in
theorem w_LF_byteAt {F : Fx} (C : Ctx F prog_1_method_9_code 2 "LineFrames" (some .int) 6 90) {k0 : Nat} (h0k : Is k0 0) (x1 : Int32) (σ : Mem) : J F 2 (cvXI σ) (f_LF_byteAt k0 x1 σ) σ 0 [(0, .ref (fad F k0)), (1, .int x1)] [] := by
  unfold f_LF_byteAt
  refine j_aload_n C d_LF_byteAt_0 0 rfl ?_
  refine j_getR C h0k fl_LF_32 rfl d_LF_byteAt_1 ?_
  refine j_iload_n C d_LF_byteAt_4 1 rfl ?_
  refine j_callVi C mv_LF_187 [.int x1] [] (tg_0_2 _ h0k) (c_BY_has (tg_0_2 _ h0k) x1 σ) rfl rfl (by decide) (Nat.le_of_ble_eq_true rfl) d_LF_byteAt_5 ?_
  refine j_if_ne (tgt := 21) C d_LF_byteAt_8 (by decide) (fun c1 => ?_) (fun c1 => ?_)
  · refine j_aload_n C d_LF_byteAt_21 0 rfl ?_
    refine j_getR C h0k fl_LF_32 rfl d_LF_byteAt_22 ?_
    refine j_iload_n C d_LF_byteAt_25 1 rfl ?_
    refine j_callVi C mv_LF_190 [.int x1] [] (tg_0_2 _ h0k) (c_BY_get (tg_0_2 _ h0k) x1 σ) rfl rfl (by decide) (Nat.le_of_ble_eq_true rfl) d_LF_byteAt_26 ?_
    exact j_ireti C (fun ρ h => leaf_eq h) d_LF_byteAt_29
  · exact j_throw C ox_LF_82_86 (List.mem_of_getElem? (i := 13) rfl) (by decide) (Nat.le_of_ble_eq_true rfl) d_LF_byteAt_11 d_LF_byteAt_14 d_LF_byteAt_15 d_LF_byteAt_17 d_LF_byteAt_20 (fun ρ h => leaf_eq h)
theorem c_LF_byteAt {l : Launch} {D : va_G} {G : GC} {ad : Nat → Nat} {k0 : Nat} (h0k : Is k0 0) (x1 : Int32) (σ : Mem) : Ctr l D G ad ⟨"LineFrames", "byteAt", "(I)I"⟩ prog_1_method_9_code 2 (some .int) 6 90 [.ref (ad k0), .int x1] σ (xrI (f_LF_byteAt k0 x1 σ) σ) := ctr_J (cv := (cvXI σ)) (E := f_LF_byteAt k0 x1 σ) (by decide +kernel) (Nat.le_of_ble_eq_true rfl) (xrI_ok _ _) (fun F h C => by subst h; exact w_LF_byteAt C h0k x1 σ)
/-! LineFrames$Bytes room ()I -/
theorem d_BY_room_0 : decode prog_4_method_3_code 0 = .ok (.sipush 6000, 3) := by decide +kernel
theorem d_BY_room_3 : decode prog_4_method_3_code 3 = .ok (.aload_n 0, 1) := by decide +kernel
theorem d_BY_room_4 : decode prog_4_method_3_code 4 = .ok (.getfield 15, 3) := by decide +kernel
theorem d_BY_room_7 : decode prog_4_method_3_code 7 = .ok (.isub, 1) := by decide +kernel
theorem d_BY_room_8 : decode prog_4_method_3_code 8 = .ok (.ireturn, 1) := by decide +kernel
def f_BY_room (k0 : Nat) (σ : Mem) : Int32 :=
  ((6000 : Int32) - (σ k0 1))
set_option maxHeartbeats 4000000 in
set_option maxRecDepth 100000 in
theorem w_BY_room {F : Fx} (C : Ctx F prog_4_method_3_code 1 "LineFrames$Bytes" (some .int) 0 0) {k0 : Nat} (h0k : Is k0 3) (σ : Mem) : J F 1 (cvI σ) (f_BY_room k0 σ) σ 0 [(0, .ref (fad F k0))] [] := by
  unfold f_BY_room
  refine j_sipush (v := (6000 : Int32)) C d_BY_room_0 (by decide) ?_
  refine j_aload_n C d_BY_room_3 0 rfl ?_
  refine j_getI C h0k fl_BY_15 rfl d_BY_room_4 ?_
  refine j_isub C d_BY_room_7 ?_
  exact j_ireti C (fun ρ h => leaf_eq h) d_BY_room_8
theorem c_BY_room {l : Launch} {D : va_G} {G : GC} {ad : Nat → Nat} {k0 : Nat} (h0k : Is k0 3) (σ : Mem) : Ctr l D G ad ⟨"LineFrames$Bytes", "room", "()I"⟩ prog_4_method_3_code 1 (some .int) 0 0 [.ref (ad k0)] σ (.inl (some (.int (f_BY_room k0 σ))), σ) := ctr_J (cv := (cvI σ)) (E := f_BY_room k0 σ) (by decide +kernel) (Nat.le_of_ble_eq_true rfl) rfl (fun F h C => by subst h; exact w_BY_room C h0k σ)
/-! LineFrames feed (I)I -/
theorem d_LF_feed_0 : decode prog_1_method_10_code 0 = .ok (.iload_n 1, 1) := by decide +kernel
theorem d_LF_feed_1 : decode prog_1_method_10_code 1 = .ok (.invokestatic 167, 3) := by decide +kernel
theorem d_LF_feed_4 : decode prog_1_method_10_code 4 = .ok (.aload_n 0, 1) := by decide +kernel
theorem d_LF_feed_5 : decode prog_1_method_10_code 5 = .ok (.getfield 36, 3) := by decide +kernel
theorem d_LF_feed_8 : decode prog_1_method_10_code 8 = .ok (.invokevirtual 191, 3) := by decide +kernel
theorem d_LF_feed_11 : decode prog_1_method_10_code 11 = .ok (.iconst 1, 1) := by decide +kernel
theorem d_LF_feed_12 : decode prog_1_method_10_code 12 = .ok (.if_icmp .ge 13, 3) := by decide +kernel
theorem d_LF_feed_15 : decode prog_1_method_10_code 15 = .ok (.new 154, 3) := by decide +kernel
theorem d_LF_feed_18 : decode prog_1_method_10_code 18 = .ok (.dup, 1) := by decide +kernel
theorem d_LF_feed_19 : decode prog_1_method_10_code 19 = .ok (.ldc 194, 2) := by decide +kernel
theorem d_LF_feed_21 : decode prog_1_method_10_code 21 = .ok (.invokespecial 158, 3) := by decide +kernel
theorem d_LF_feed_24 : decode prog_1_method_10_code 24 = .ok (.athrow, 1) := by decide +kernel
theorem d_LF_feed_25 : decode prog_1_method_10_code 25 = .ok (.aload_n 0, 1) := by decide +kernel
theorem d_LF_feed_26 : decode prog_1_method_10_code 26 = .ok (.getfield 36, 3) := by decide +kernel
theorem d_LF_feed_29 : decode prog_1_method_10_code 29 = .ok (.iload_n 1, 1) := by decide +kernel
theorem d_LF_feed_30 : decode prog_1_method_10_code 30 = .ok (.invokevirtual 196, 3) := by decide +kernel
theorem d_LF_feed_33 : decode prog_1_method_10_code 33 = .ok (.aload_n 0, 1) := by decide +kernel
theorem d_LF_feed_34 : decode prog_1_method_10_code 34 = .ok (.getfield 36, 3) := by decide +kernel
theorem d_LF_feed_37 : decode prog_1_method_10_code 37 = .ok (.invokevirtual 183, 3) := by decide +kernel
theorem d_LF_feed_40 : decode prog_1_method_10_code 40 = .ok (.ireturn, 1) := by decide +kernel
def f_LF_feed (k0 : Nat) (x1 : Int32) (σ : Mem) : (Int32 ⊕ Nat) × Mem :=
  xcase (f_LF_wantByte x1 σ) (fun _ =>
  if (1 : Int32) ≤ (f_BY_room (wtg k0 3) σ) then
  lt (f_BY_add (wtg k0 3) x1 σ) fun σ3 =>
  ((.inl (f_BY_size (wtg k0 3) σ3)), σ3)
  else
  ((.inr 4), σ)) (fun n => ((.inr n), σ))
set_option maxHeartbeats 4000000 in
set_option maxRecDepth 100000 in
theorem w_LF_feed {F : Fx} (C : Ctx F prog_1_method_10_code 2 "LineFrames" (some .int) 7 110) {k0 : Nat} (h0k : Is k0 0) (x1 : Int32) (σ : Mem) : J F 2 cvXIM (f_LF_feed k0 x1 σ) σ 0 [(0, .ref (fad F k0)), (1, .int x1)] [] := by
  unfold f_LF_feed
  refine j_iload_n C d_LF_feed_0 1 rfl ?_
  refine j_xcase (fun _ e1 => ?_) (fun n e1 => ?_)
  · refine j_callSv C ms_LF_167 [.int x1] [] (ctr_xl e1 (c_LF_wantByte x1 σ)) rfl rfl (by decide) (Nat.le_of_ble_eq_true rfl) d_LF_feed_1 ?_
    refine j_aload_n C d_LF_feed_4 0 rfl ?_
    refine j_getR C h0k fl_LF_36 rfl d_LF_feed_5 ?_
    refine j_callVi C mv_LF_191 [] [] (tg_0_3 _ h0k) (c_BY_room (tg_0_3 _ h0k) σ) rfl rfl (by decide) (Nat.le_of_ble_eq_true rfl) d_LF_feed_8 ?_
    refine j_iconst (v := (1 : Int32)) C d_LF_feed_11 (by decide) ?_
    refine j_icmp_ge (tgt := 25) C d_LF_feed_12 (by decide) (fun c2 => ?_) (fun c2 => ?_)
    · refine j_aload_n C d_LF_feed_25 0 rfl ?_
      refine j_getR C h0k fl_LF_36 rfl d_LF_feed_26 ?_
      refine j_iload_n C d_LF_feed_29 1 rfl ?_
      refine j_callVv C mv_LF_196 [.int x1] [] (tg_0_3 _ h0k) (c_BY_add (tg_0_3 _ h0k) x1 σ) rfl rfl (by decide) (Nat.le_of_ble_eq_true rfl) d_LF_feed_30 ?_
      refine j_genM (fun σ3 => ?_)
      refine j_aload_n C d_LF_feed_33 0 rfl ?_
      refine j_getR C h0k fl_LF_36 rfl d_LF_feed_34 ?_
      refine j_callVi C mv_LF_183 [] [] (tg_0_3 _ h0k) (c_BY_size (tg_0_3 _ h0k) σ3) rfl rfl (by decide) (Nat.le_of_ble_eq_true rfl) d_LF_feed_37 ?_
      exact j_ireti C (fun ρ h => leaf_eq h) d_LF_feed_40
    · exact j_throw C ox_LF_154_158 (List.mem_of_getElem? (i := 14) rfl) (by decide) (Nat.le_of_ble_eq_true rfl) d_LF_feed_15 d_LF_feed_18 d_LF_feed_19 d_LF_feed_21 d_LF_feed_24 (fun ρ h => leaf_eq h)
  · refine j_callSx C ms_LF_167 [.int x1] [] (ctr_xr e1 (c_LF_wantByte x1 σ)) rfl rfl (by decide) (Nat.le_of_ble_eq_true rfl) d_LF_feed_1 (fun ρ h => leaf_eq h)
theorem c_LF_feed {l : Launch} {D : va_G} {G : GC} {ad : Nat → Nat} {k0 : Nat} (h0k : Is k0 0) (x1 : Int32) (σ : Mem) : Ctr l D G ad ⟨"LineFrames", "feed", "(I)I"⟩ prog_1_method_10_code 2 (some .int) 7 110 [.ref (ad k0), .int x1] σ (xrIM (f_LF_feed k0 x1 σ)) := ctr_J (cv := cvXIM) (E := f_LF_feed k0 x1 σ) (by decide +kernel) (Nat.le_of_ble_eq_true rfl) (xrIM_ok _) (fun F h C => by subst h; exact w_LF_feed C h0k x1 σ)
/-! LineFrames pass (II)I -/
theorem d_LF_pass_0 : decode prog_1_method_11_code 0 = .ok (.aload_n 0, 1) := by decide +kernel
theorem d_LF_pass_1 : decode prog_1_method_11_code 1 = .ok (.getfield 32, 3) := by decide +kernel
theorem d_LF_pass_4 : decode prog_1_method_11_code 4 = .ok (.iload_n 1, 1) := by decide +kernel
theorem d_LF_pass_5 : decode prog_1_method_11_code 5 = .ok (.invokevirtual 187, 3) := by decide +kernel
theorem d_LF_pass_8 : decode prog_1_method_11_code 8 = .ok (.ifCond .ne 13, 3) := by decide +kernel
theorem d_LF_pass_11 : decode prog_1_method_11_code 11 = .ok (.new 82, 3) := by decide +kernel
theorem d_LF_pass_14 : decode prog_1_method_11_code 14 = .ok (.dup, 1) := by decide +kernel
theorem d_LF_pass_15 : decode prog_1_method_11_code 15 = .ok (.ldc 188, 2) := by decide +kernel
theorem d_LF_pass_17 : decode prog_1_method_11_code 17 = .ok (.invokespecial 86, 3) := by decide +kernel
theorem d_LF_pass_20 : decode prog_1_method_11_code 20 = .ok (.athrow, 1) := by decide +kernel
theorem d_LF_pass_21 : decode prog_1_method_11_code 21 = .ok (.iload_n 2, 1) := by decide +kernel
theorem d_LF_pass_22 : decode prog_1_method_11_code 22 = .ok (.ifCond .ge 13, 3) := by decide +kernel
theorem d_LF_pass_25 : decode prog_1_method_11_code 25 = .ok (.new 61, 3) := by decide +kernel
theorem d_LF_pass_28 : decode prog_1_method_11_code 28 = .ok (.dup, 1) := by decide +kernel
theorem d_LF_pass_29 : decode prog_1_method_11_code 29 = .ok (.ldc 199, 2) := by decide +kernel
theorem d_LF_pass_31 : decode prog_1_method_11_code 31 = .ok (.invokespecial 65, 3) := by decide +kernel
theorem d_LF_pass_34 : decode prog_1_method_11_code 34 = .ok (.athrow, 1) := by decide +kernel
theorem d_LF_pass_35 : decode prog_1_method_11_code 35 = .ok (.iload_n 2, 1) := by decide +kernel
theorem d_LF_pass_36 : decode prog_1_method_11_code 36 = .ok (.aload_n 0, 1) := by decide +kernel
theorem d_LF_pass_37 : decode prog_1_method_11_code 37 = .ok (.getfield 32, 3) := by decide +kernel
theorem d_LF_pass_40 : decode prog_1_method_11_code 40 = .ok (.invokevirtual 183, 3) := by decide +kernel
theorem d_LF_pass_43 : decode prog_1_method_11_code 43 = .ok (.iload_n 1, 1) := by decide +kernel
theorem d_LF_pass_44 : decode prog_1_method_11_code 44 = .ok (.isub, 1) := by decide +kernel
theorem d_LF_pass_45 : decode prog_1_method_11_code 45 = .ok (.invokestatic 9, 3) := by decide +kernel
theorem d_LF_pass_48 : decode prog_1_method_11_code 48 = .ok (.istore_n 3, 1) := by decide +kernel
theorem d_LF_pass_49 : decode prog_1_method_11_code 49 = .ok (.iload_n 3, 1) := by decide +kernel
theorem d_LF_pass_50 : decode prog_1_method_11_code 50 = .ok (.aload_n 0, 1) := by decide +kernel
theorem d_LF_pass_51 : decode prog_1_method_11_code 51 = .ok (.getfield 36, 3) := by decide +kernel
theorem d_LF_pass_54 : decode prog_1_method_11_code 54 = .ok (.invokevirtual 191, 3) := by decide +kernel
theorem d_LF_pass_57 : decode prog_1_method_11_code 57 = .ok (.if_icmp .le 13, 3) := by decide +kernel
theorem d_LF_pass_60 : decode prog_1_method_11_code 60 = .ok (.new 154, 3) := by decide +kernel
theorem d_LF_pass_63 : decode prog_1_method_11_code 63 = .ok (.dup, 1) := by decide +kernel
theorem d_LF_pass_64 : decode prog_1_method_11_code 64 = .ok (.ldc 201, 2) := by decide +kernel
theorem d_LF_pass_66 : decode prog_1_method_11_code 66 = .ok (.invokespecial 158, 3) := by decide +kernel
theorem d_LF_pass_69 : decode prog_1_method_11_code 69 = .ok (.athrow, 1) := by decide +kernel
theorem d_LF_pass_70 : decode prog_1_method_11_code 70 = .ok (.iconst 0, 1) := by decide +kernel
theorem d_LF_pass_71 : decode prog_1_method_11_code 71 = .ok (.istore 4, 2) := by decide +kernel
theorem d_LF_pass_73 : decode prog_1_method_11_code 73 = .ok (.iload 4, 2) := by decide +kernel
theorem d_LF_pass_75 : decode prog_1_method_11_code 75 = .ok (.iload_n 3, 1) := by decide +kernel
theorem d_LF_pass_76 : decode prog_1_method_11_code 76 = .ok (.if_icmp .ge 27, 3) := by decide +kernel
theorem d_LF_pass_79 : decode prog_1_method_11_code 79 = .ok (.aload_n 0, 1) := by decide +kernel
theorem d_LF_pass_80 : decode prog_1_method_11_code 80 = .ok (.getfield 36, 3) := by decide +kernel
theorem d_LF_pass_83 : decode prog_1_method_11_code 83 = .ok (.aload_n 0, 1) := by decide +kernel
theorem d_LF_pass_84 : decode prog_1_method_11_code 84 = .ok (.getfield 32, 3) := by decide +kernel
theorem d_LF_pass_87 : decode prog_1_method_11_code 87 = .ok (.iload_n 1, 1) := by decide +kernel
theorem d_LF_pass_88 : decode prog_1_method_11_code 88 = .ok (.iload 4, 2) := by decide +kernel
theorem d_LF_pass_90 : decode prog_1_method_11_code 90 = .ok (.iadd, 1) := by decide +kernel
theorem d_LF_pass_91 : decode prog_1_method_11_code 91 = .ok (.invokevirtual 190, 3) := by decide +kernel
theorem d_LF_pass_94 : decode prog_1_method_11_code 94 = .ok (.invokevirtual 196, 3) := by decide +kernel
theorem d_LF_pass_97 : decode prog_1_method_11_code 97 = .ok (.iinc 4 1, 3) := by decide +kernel
theorem d_LF_pass_100 : decode prog_1_method_11_code 100 = .ok (.goto (-27), 3) := by decide +kernel
theorem d_LF_pass_103 : decode prog_1_method_11_code 103 = .ok (.iload_n 3, 1) := by decide +kernel
theorem d_LF_pass_104 : decode prog_1_method_11_code 104 = .ok (.ireturn, 1) := by decide +kernel
def L_LF_pass_73 (r0 : Nat) (b1 : Int32) (b2 : Int32) (b3 : Int32) : Nat → Int32 → Mem →  Option (Int32 × Mem)
  | 0, _, _ => none
  | n + 1, a4, σ =>
  if b3 ≤ a4 then
  some (a4, σ)
  else
  lt (f_BY_add (wtg r0 3) (f_BY_get (wtg r0 2) (b1 + a4) σ) σ) fun σ6 =>
  L_LF_pass_73 r0 b1 b2 b3 n (a4 + (1 : Int32)) σ6
def f_LF_pass (k0 : Nat) (x1 : Int32) (x2 : Int32) (σ : Mem) : Option ((Int32 ⊕ Nat) × Mem) :=
  if (f_BY_has (wtg k0 2) x1 σ) = 0 then
  some ((.inr 2), σ)
  else
  if 0 ≤ x2 then
  lt (imin x2 ((f_BY_size (wtg k0 2) σ) - x1)) fun v3 =>
  if v3 ≤ (f_BY_room (wtg k0 3) σ) then
  (L_LF_pass_73 k0 x1 x2 v3 9999 (0 : Int32) σ).bind fun q7 =>
  some ((.inl v3), q7.2)
  else
  some ((.inr 4), σ)
  else
  some ((.inr 3), σ)
set_option maxHeartbeats 4000000 in
set_option maxRecDepth 100000 in
theorem wL_LF_pass_73 {F : Fx} (C : Ctx F prog_1_method_11_code 5 "LineFrames" (some .int) 6 90) {cv : Option (Int32 × Mem) → Option Rs} (h0 : cv none = none) (r0 : Nat) (hr0 : Is r0 0) (b1 : Int32) (b2 : Int32) (b3 : Int32) (hex : ∀ q : Int32 × Mem, J F 5 cv (some q) q.2 103 [(0, .ref (fad F r0)), (1, .int b1), (2, .int b2), (3, .int b3), (4, .int q.1)] []) : ∀ (n : Nat) (a4 : Int32) (σ : Mem), J F 5 cv (L_LF_pass_73 r0 b1 b2 b3 n a4 σ) σ 73 [(0, .ref (fad F r0)), (1, .int b1), (2, .int b2), (3, .int b3), (4, .int a4)] [] := by
  intro n
  induction n with
  | zero => intro a4 σ hE; rw [L_LF_pass_73, h0] at hE; cases hE
  | succ n ih =>
    intro a4 σ
    rw [L_LF_pass_73]
    refine j_iload C d_LF_pass_73 4 rfl ?_
    refine j_iload_n C d_LF_pass_75 3 rfl ?_
    refine j_icmp_ge (tgt := 103) C d_LF_pass_76 (by decide) (fun c5 => ?_) (fun c5 => ?_)
    · exact hex (a4, σ)
    · refine j_aload_n C d_LF_pass_79 0 rfl ?_
      refine j_getR C hr0 fl_LF_36 rfl d_LF_pass_80 ?_
      refine j_aload_n C d_LF_pass_83 0 rfl ?_
      refine j_getR C hr0 fl_LF_32 rfl d_LF_pass_84 ?_
      refine j_iload_n C d_LF_pass_87 1 rfl ?_
      refine j_iload C d_LF_pass_88 4 rfl ?_
      refine j_iadd C d_LF_pass_90 ?_
      refine j_callVi C mv_LF_190 [.int (b1 + a4)] [.ref (fad F (wtg r0 3))] (tg_0_2 _ hr0) (c_BY_get (tg_0_2 _ hr0) (b1 + a4) σ) rfl rfl (by decide) (Nat.le_of_ble_eq_true rfl) d_LF_pass_91 ?_
      refine j_callVv C mv_LF_196 [.int (f_BY_get (wtg r0 2) (b1 + a4) σ)] [] (tg_0_3 _ hr0) (c_BY_add (tg_0_3 _ hr0) (f_BY_get (wtg r0 2) (b1 + a4) σ) σ) rfl rfl (by decide) (Nat.le_of_ble_eq_true rfl) d_LF_pass_94 ?_
      refine j_genM (fun σ6 => ?_)
      refine j_iinc (v := (a4 + (1 : Int32))) (lv9 := [(0, .ref (fad F r0)), (1, .int b1), (2, .int b2), (3, .int b3), (4, .int (a4 + (1 : Int32)))]) C d_LF_pass_97 4 rfl rfl rfl rfl (by decide) ?_
      refine j_goto (tgt := 73) C d_LF_pass_100 (by decide) ?_
      exact ih (a4 + (1 : Int32)) σ6
set_option maxHeartbeats 4000000 in
set_option maxRecDepth 100000 in
theorem w_LF_pass {F : Fx} (C : Ctx F prog_1_method_11_code 5 "LineFrames" (some .int) 6 90) {k0 : Nat} (h0k : Is k0 0) (x1 : Int32) (x2 : Int32) (σ : Mem) : J F 5 (cvO cvXIM) (f_LF_pass k0 x1 x2 σ) σ 0 [(0, .ref (fad F k0)), (1, .int x1), (2, .int x2)] [] := by
  unfold f_LF_pass
  refine j_aload_n C d_LF_pass_0 0 rfl ?_
  refine j_getR C h0k fl_LF_32 rfl d_LF_pass_1 ?_
  refine j_iload_n C d_LF_pass_4 1 rfl ?_
  refine j_callVi C mv_LF_187 [.int x1] [] (tg_0_2 _ h0k) (c_BY_has (tg_0_2 _ h0k) x1 σ) rfl rfl (by decide) (Nat.le_of_ble_eq_true rfl) d_LF_pass_5 ?_
  refine j_if_ne (tgt := 21) C d_LF_pass_8 (by decide) (fun c1 => ?_) (fun c1 => ?_)
  · refine j_iload_n C d_LF_pass_21 2 rfl ?_
    refine j_if_ge (tgt := 35) C d_LF_pass_22 (by decide) (fun c2 => ?_) (fun c2 => ?_)
    · refine j_iload_n C d_LF_pass_35 2 rfl ?_
      refine j_aload_n C d_LF_pass_36 0 rfl ?_
      refine j_getR C h0k fl_LF_32 rfl d_LF_pass_37 ?_
      refine j_callVi C mv_LF_183 [] [.int x2] (tg_0_2 _ h0k) (c_BY_size (tg_0_2 _ h0k) σ) rfl rfl (by decide) (Nat.le_of_ble_eq_true rfl) d_LF_pass_40 ?_
      refine j_iload_n C d_LF_pass_43 1 rfl ?_
      refine j_isub C d_LF_pass_44 ?_
      refine j_min C mm_LF_9 ⟨by decide, Nat.le_of_ble_eq_true rfl⟩ d_LF_pass_45 ?_
      refine j_nm (fun v3 v3_e => ?_)
      refine j_istore_n (lv9 := [(0, .ref (fad F k0)), (1, .int x1), (2, .int x2), (3, .int v3)]) C d_LF_pass_48 rfl rfl (by decide) ?_
      refine j_iload_n C d_LF_pass_49 3 rfl ?_
      refine j_aload_n C d_LF_pass_50 0 rfl ?_
      refine j_getR C h0k fl_LF_36 rfl d_LF_pass_51 ?_
      refine j_callVi C mv_LF_191 [] [.int v3] (tg_0_3 _ h0k) (c_BY_room (tg_0_3 _ h0k) σ) rfl rfl (by decide) (Nat.le_of_ble_eq_true rfl) d_LF_pass_54 ?_
      refine j_icmp_le (tgt := 70) C d_LF_pass_57 (by decide) (fun c4 => ?_) (fun c4 => ?_)
      · refine j_iconst (v := (0 : Int32)) C d_LF_pass_70 (by decide) ?_
        refine j_istore (lv9 := [(0, .ref (fad F k0)), (1, .int x1), (2, .int x2), (3, .int v3), (4, .int (0 : Int32))]) C d_LF_pass_71 rfl rfl (by decide) ?_
        refine j_loop (wL_LF_pass_73 C rfl k0 h0k x1 x2 v3 (fun q7 => j_some ?_) 9999 (0 : Int32) σ)
        refine j_iload_n C d_LF_pass_103 3 rfl ?_
        exact j_ireti C (fun ρ h => leaf_eq h) d_LF_pass_104
      · exact j_throw C ox_LF_154_158 (List.mem_of_getElem? (i := 16) rfl) (by decide) (Nat.le_of_ble_eq_true rfl) d_LF_pass_60 d_LF_pass_63 d_LF_pass_64 d_LF_pass_66 d_LF_pass_69 (fun ρ h => leaf_eq h)
    · exact j_throw C ox_LF_61_65 (List.mem_of_getElem? (i := 15) rfl) (by decide) (Nat.le_of_ble_eq_true rfl) d_LF_pass_25 d_LF_pass_28 d_LF_pass_29 d_LF_pass_31 d_LF_pass_34 (fun ρ h => leaf_eq h)
  · exact j_throw C ox_LF_82_86 (List.mem_of_getElem? (i := 13) rfl) (by decide) (Nat.le_of_ble_eq_true rfl) d_LF_pass_11 d_LF_pass_14 d_LF_pass_15 d_LF_pass_17 d_LF_pass_20 (fun ρ h => leaf_eq h)
theorem c_LF_pass {l : Launch} {D : va_G} {G : GC} {ad : Nat → Nat} {k0 : Nat} (h0k : Is k0 0) (x1 : Int32) (x2 : Int32) (σ : Mem) {q : (Int32 ⊕ Nat) × Mem} (hq : f_LF_pass k0 x1 x2 σ = some q) : Ctr l D G ad ⟨"LineFrames", "pass", "(II)I"⟩ prog_1_method_11_code 5 (some .int) 6 90 [.ref (ad k0), .int x1, .int x2] σ (xrIM q) := ctr_J (cv := (cvO cvXIM)) (E := f_LF_pass k0 x1 x2 σ) (by decide +kernel) (Nat.le_of_ble_eq_true rfl) (by rw [hq]; exact xrIM_ok _) (fun F h C => by subst h; exact w_LF_pass C h0k x1 x2 σ)
/-! LineFrames$Bytes set (II)V -/
theorem d_BY_set_0 : decode prog_4_method_7_code 0 = .ok (.iload_n 1, 1) := by decide +kernel
theorem d_BY_set_1 : decode prog_4_method_7_code 1 = .ok (.ifCond .lt 27, 3) := by decide +kernel
theorem d_BY_set_4 : decode prog_4_method_7_code 4 = .ok (.iload_n 1, 1) := by decide +kernel
theorem d_BY_set_5 : decode prog_4_method_7_code 5 = .ok (.aload_n 0, 1) := by decide +kernel
theorem d_BY_set_6 : decode prog_4_method_7_code 6 = .ok (.getfield 15, 3) := by decide +kernel
theorem d_BY_set_9 : decode prog_4_method_7_code 9 = .ok (.if_icmp .ge 19, 3) := by decide +kernel
theorem d_BY_set_12 : decode prog_4_method_7_code 12 = .ok (.iload_n 1, 1) := by decide +kernel
theorem d_BY_set_13 : decode prog_4_method_7_code 13 = .ok (.aload_n 0, 1) := by decide +kernel
theorem d_BY_set_14 : decode prog_4_method_7_code 14 = .ok (.getfield 9, 3) := by decide +kernel
theorem d_BY_set_17 : decode prog_4_method_7_code 17 = .ok (.arraylength, 1) := by decide +kernel
theorem d_BY_set_18 : decode prog_4_method_7_code 18 = .ok (.if_icmp .ge 10, 3) := by decide +kernel
theorem d_BY_set_21 : decode prog_4_method_7_code 21 = .ok (.aload_n 0, 1) := by decide +kernel
theorem d_BY_set_22 : decode prog_4_method_7_code 22 = .ok (.getfield 9, 3) := by decide +kernel
theorem d_BY_set_25 : decode prog_4_method_7_code 25 = .ok (.iload_n 1, 1) := by decide +kernel
theorem d_BY_set_26 : decode prog_4_method_7_code 26 = .ok (.iload_n 2, 1) := by decide +kernel
theorem d_BY_set_27 : decode prog_4_method_7_code 27 = .ok (.iastore, 1) := by decide +kernel
theorem d_BY_set_28 : decode prog_4_method_7_code 28 = .ok (.return_, 1) := by decide +kernel
def f_BY_set (k0 : Nat) (x1 : Int32) (x2 : Int32) (σ : Mem) : Mem :=
  if x1 < 0 then
  σ
  else
  if (σ k0 1) ≤ x1 then
  σ
  else
  if (nI (wln (wtg k0 0))) ≤ x1 then
  σ
  else
  lt (mput σ (wtg k0 0) x1.toNatClampNeg x2) fun σ10 =>
  σ10
set_option maxHeartbeats 4000000 in
set_option maxRecDepth 100000 in
theorem w_BY_set {F : Fx} (C : Ctx F prog_4_method_7_code 3 "LineFrames$Bytes" none 0 0) {k0 : Nat} (h0k : Is k0 3) (x1 : Int32) (x2 : Int32) (σ : Mem) : J F 3 cvM (f_BY_set k0 x1 x2 σ) σ 0 [(0, .ref (fad F k0)), (1, .int x1), (2, .int x2)] [] := by
  unfold f_BY_set
  refine j_iload_n C d_BY_set_0 1 rfl ?_
  refine j_if_lt (tgt := 28) C d_BY_set_1 (by decide) (fun c3 => ?_) (fun c3 => ?_)
  · exact j_vret C (fun ρ h => leaf_eq h) d_BY_set_28
  · refine j_iload_n C d_BY_set_4 1 rfl ?_
    refine j_aload_n C d_BY_set_5 0 rfl ?_
    refine j_getI C h0k fl_BY_15 rfl d_BY_set_6 ?_
    refine j_icmp_ge (tgt := 28) C d_BY_set_9 (by decide) (fun c6 => ?_) (fun c6 => ?_)
    · exact j_vret C (fun ρ h => leaf_eq h) d_BY_set_28
    · refine j_iload_n C d_BY_set_12 1 rfl ?_
      refine j_aload_n C d_BY_set_13 0 rfl ?_
      refine j_getR C h0k fl_BY_9 rfl d_BY_set_14 ?_
      refine j_alen C (tg_3_0 _ h0k) d_BY_set_17 ?_
      refine j_icmp_ge (tgt := 28) C d_BY_set_18 (by decide) (fun c9 => ?_) (fun c9 => ?_)
      · exact j_vret C (fun ρ h => leaf_eq h) d_BY_set_28
      · refine j_aload_n C d_BY_set_21 0 rfl ?_
        refine j_getR C h0k fl_BY_9 rfl d_BY_set_22 ?_
        refine j_iload_n C d_BY_set_25 1 rfl ?_
        refine j_iload_n C d_BY_set_26 2 rfl ?_
        refine j_iast C (tg_3_0 _ h0k) (vp_gd c3 c9 (wln_lt _)) d_BY_set_27 (fun σ10 => ?_)
        exact j_vret C (fun ρ h => leaf_eq h) d_BY_set_28
theorem c_BY_set {l : Launch} {D : va_G} {G : GC} {ad : Nat → Nat} {k0 : Nat} (h0k : Is k0 3) (x1 : Int32) (x2 : Int32) (σ : Mem) : Ctr l D G ad ⟨"LineFrames$Bytes", "set", "(II)V"⟩ prog_4_method_7_code 3 none 0 0 [.ref (ad k0), .int x1, .int x2] σ (.inl none, (f_BY_set k0 x1 x2 σ)) := ctr_J (cv := cvM) (E := f_BY_set k0 x1 x2 σ) (by decide +kernel) (Nat.le_of_ble_eq_true rfl) rfl (fun F h C => by subst h; exact w_BY_set C h0k x1 x2 σ)
/-! LineFrames alter (II)I -/
theorem d_LF_alter_0 : decode prog_1_method_12_code 0 = .ok (.aload_n 0, 1) := by decide +kernel
theorem d_LF_alter_1 : decode prog_1_method_12_code 1 = .ok (.getfield 36, 3) := by decide +kernel
theorem d_LF_alter_4 : decode prog_1_method_12_code 4 = .ok (.iload_n 1, 1) := by decide +kernel
theorem d_LF_alter_5 : decode prog_1_method_12_code 5 = .ok (.invokevirtual 187, 3) := by decide +kernel
theorem d_LF_alter_8 : decode prog_1_method_12_code 8 = .ok (.ifCond .ne 13, 3) := by decide +kernel
theorem d_LF_alter_11 : decode prog_1_method_12_code 11 = .ok (.new 82, 3) := by decide +kernel
theorem d_LF_alter_14 : decode prog_1_method_12_code 14 = .ok (.dup, 1) := by decide +kernel
theorem d_LF_alter_15 : decode prog_1_method_12_code 15 = .ok (.ldc 203, 2) := by decide +kernel
theorem d_LF_alter_17 : decode prog_1_method_12_code 17 = .ok (.invokespecial 86, 3) := by decide +kernel
theorem d_LF_alter_20 : decode prog_1_method_12_code 20 = .ok (.athrow, 1) := by decide +kernel
theorem d_LF_alter_21 : decode prog_1_method_12_code 21 = .ok (.iload_n 2, 1) := by decide +kernel
theorem d_LF_alter_22 : decode prog_1_method_12_code 22 = .ok (.invokestatic 167, 3) := by decide +kernel
theorem d_LF_alter_25 : decode prog_1_method_12_code 25 = .ok (.aload_n 0, 1) := by decide +kernel
theorem d_LF_alter_26 : decode prog_1_method_12_code 26 = .ok (.getfield 36, 3) := by decide +kernel
theorem d_LF_alter_29 : decode prog_1_method_12_code 29 = .ok (.iload_n 1, 1) := by decide +kernel
theorem d_LF_alter_30 : decode prog_1_method_12_code 30 = .ok (.invokevirtual 190, 3) := by decide +kernel
theorem d_LF_alter_33 : decode prog_1_method_12_code 33 = .ok (.istore_n 3, 1) := by decide +kernel
theorem d_LF_alter_34 : decode prog_1_method_12_code 34 = .ok (.aload_n 0, 1) := by decide +kernel
theorem d_LF_alter_35 : decode prog_1_method_12_code 35 = .ok (.getfield 36, 3) := by decide +kernel
theorem d_LF_alter_38 : decode prog_1_method_12_code 38 = .ok (.iload_n 1, 1) := by decide +kernel
theorem d_LF_alter_39 : decode prog_1_method_12_code 39 = .ok (.iload_n 2, 1) := by decide +kernel
theorem d_LF_alter_40 : decode prog_1_method_12_code 40 = .ok (.invokevirtual 205, 3) := by decide +kernel
theorem d_LF_alter_43 : decode prog_1_method_12_code 43 = .ok (.iload_n 3, 1) := by decide +kernel
theorem d_LF_alter_44 : decode prog_1_method_12_code 44 = .ok (.ireturn, 1) := by decide +kernel
def f_LF_alter (k0 : Nat) (x1 : Int32) (x2 : Int32) (σ : Mem) : (Int32 ⊕ Nat) × Mem :=
  if (f_BY_has (wtg k0 3) x1 σ) = 0 then
  ((.inr 2), σ)
  else
  xcase (f_LF_wantByte x2 σ) (fun _ =>
  lt (f_BY_set (wtg k0 3) x1 x2 σ) fun σ3 =>
  ((.inl (f_BY_get (wtg k0 3) x1 σ)), σ3)) (fun n => ((.inr n), σ))
set_option maxHeartbeats 4000000 in
set_option maxRecDepth 100000 in
theorem w_LF_alter {F : Fx} (C : Ctx F prog_1_method_12_code 4 "LineFrames" (some .int) 7 110) {k0 : Nat} (h0k : Is k0 0) (x1 : Int32) (x2 : Int32) (σ : Mem) : J F 4 cvXIM (f_LF_alter k0 x1 x2 σ) σ 0 [(0, .ref (fad F k0)), (1, .int x1), (2, .int x2)] [] := by
  unfold f_LF_alter
  refine j_aload_n C d_LF_alter_0 0 rfl ?_
  refine j_getR C h0k fl_LF_36 rfl d_LF_alter_1 ?_
  refine j_iload_n C d_LF_alter_4 1 rfl ?_
  refine j_callVi C mv_LF_187 [.int x1] [] (tg_0_3 _ h0k) (c_BY_has (tg_0_3 _ h0k) x1 σ) rfl rfl (by decide) (Nat.le_of_ble_eq_true rfl) d_LF_alter_5 ?_
  refine j_if_ne (tgt := 21) C d_LF_alter_8 (by decide) (fun c1 => ?_) (fun c1 => ?_)
  · refine j_iload_n C d_LF_alter_21 2 rfl ?_
    refine j_xcase (fun _ e2 => ?_) (fun n e2 => ?_)
    · refine j_callSv C ms_LF_167 [.int x2] [] (ctr_xl e2 (c_LF_wantByte x2 σ)) rfl rfl (by decide) (Nat.le_of_ble_eq_true rfl) d_LF_alter_22 ?_
      refine j_aload_n C d_LF_alter_25 0 rfl ?_
      refine j_getR C h0k fl_LF_36 rfl d_LF_alter_26 ?_
      refine j_iload_n C d_LF_alter_29 1 rfl ?_
      refine j_callVi C mv_LF_190 [.int x1] [] (tg_0_3 _ h0k) (c_BY_get (tg_0_3 _ h0k) x1 σ) rfl rfl (by decide) (Nat.le_of_ble_eq_true rfl) d_LF_alter_30 ?_
      refine j_istore_n (lv9 := [(0, .ref (fad F k0)), (1, .int x1), (2, .int x2), (3, .int (f_BY_get (wtg k0 3) x1 σ))]) C d_LF_alter_33 rfl rfl (by decide) ?_
      refine j_aload_n C d_LF_alter_34 0 rfl ?_
      refine j_getR C h0k fl_LF_36 rfl d_LF_alter_35 ?_
      refine j_iload_n C d_LF_alter_38 1 rfl ?_
      refine j_iload_n C d_LF_alter_39 2 rfl ?_
      refine j_callVv C mv_LF_205 [.int x1, .int x2] [] (tg_0_3 _ h0k) (c_BY_set (tg_0_3 _ h0k) x1 x2 σ) rfl rfl (by decide) (Nat.le_of_ble_eq_true rfl) d_LF_alter_40 ?_
      refine j_genM (fun σ3 => ?_)
      refine j_iload_n C d_LF_alter_43 3 rfl ?_
      exact j_ireti C (fun ρ h => leaf_eq h) d_LF_alter_44
    · refine j_callSx C ms_LF_167 [.int x2] [] (ctr_xr e2 (c_LF_wantByte x2 σ)) rfl rfl (by decide) (Nat.le_of_ble_eq_true rfl) d_LF_alter_22 (fun ρ h => leaf_eq h)
  · exact j_throw C ox_LF_82_86 (List.mem_of_getElem? (i := 17) rfl) (by decide) (Nat.le_of_ble_eq_true rfl) d_LF_alter_11 d_LF_alter_14 d_LF_alter_15 d_LF_alter_17 d_LF_alter_20 (fun ρ h => leaf_eq h)
theorem c_LF_alter {l : Launch} {D : va_G} {G : GC} {ad : Nat → Nat} {k0 : Nat} (h0k : Is k0 0) (x1 : Int32) (x2 : Int32) (σ : Mem) : Ctr l D G ad ⟨"LineFrames", "alter", "(II)I"⟩ prog_1_method_12_code 4 (some .int) 7 110 [.ref (ad k0), .int x1, .int x2] σ (xrIM (f_LF_alter k0 x1 x2 σ)) := ctr_J (cv := cvXIM) (E := f_LF_alter k0 x1 x2 σ) (by decide +kernel) (Nat.le_of_ble_eq_true rfl) (xrIM_ok _) (fun F h C => by subst h; exact w_LF_alter C h0k x1 x2 σ)
/-! LineFrames wantReading ()V -/
theorem d_LF_wantReading_0 : decode prog_1_method_20_code 0 = .ok (.aload_n 0, 1) := by decide +kernel
theorem d_LF_wantReading_1 : decode prog_1_method_20_code 1 = .ok (.getfield 53, 3) := by decide +kernel
theorem d_LF_wantReading_4 : decode prog_1_method_20_code 4 = .ok (.getfield 215, 3) := by decide +kernel
theorem d_LF_wantReading_7 : decode prog_1_method_20_code 7 = .ok (.ifCond .ne 14, 3) := by decide +kernel
theorem d_LF_wantReading_10 : decode prog_1_method_20_code 10 = .ok (.new 271, 3) := by decide +kernel
theorem d_LF_wantReading_13 : decode prog_1_method_20_code 13 = .ok (.dup, 1) := by decide +kernel
theorem d_LF_wantReading_14 : decode prog_1_method_20_code 14 = .ok (.ldc_w 276, 3) := by decide +kernel
theorem d_LF_wantReading_17 : decode prog_1_method_20_code 17 = .ok (.invokespecial 275, 3) := by decide +kernel
theorem d_LF_wantReading_20 : decode prog_1_method_20_code 20 = .ok (.athrow, 1) := by decide +kernel
theorem d_LF_wantReading_21 : decode prog_1_method_20_code 21 = .ok (.return_, 1) := by decide +kernel
def f_LF_wantReading (k0 : Nat) (σ : Mem) : (Unit ⊕ Nat) :=
  if (σ (wtg k0 5) 7) = 0 then
  (.inr 1)
  else
  .inl ()
set_option maxHeartbeats 4000000 in
set_option maxRecDepth 100000 in
theorem w_LF_wantReading {F : Fx} (C : Ctx F prog_1_method_20_code 1 "LineFrames" none 6 90) {k0 : Nat} (h0k : Is k0 0) (σ : Mem) : J F 1 (cvXV σ) (f_LF_wantReading k0 σ) σ 0 [(0, .ref (fad F k0))] [] := by
  unfold f_LF_wantReading
  refine j_aload_n C d_LF_wantReading_0 0 rfl ?_
  refine j_getR C h0k fl_LF_53 rfl d_LF_wantReading_1 ?_
  refine j_getI C (tg_0_5 _ h0k) fl_LF_215 rfl d_LF_wantReading_4 ?_
  refine j_if_ne (tgt := 21) C d_LF_wantReading_7 (by decide) (fun c1 => ?_) (fun c1 => ?_)
  · exact j_vret C (fun ρ h => leaf_eq h) d_LF_wantReading_21
  · exact j_throwW C ox_LF_271_275 (List.mem_of_getElem? (i := 18) rfl) (by decide) (Nat.le_of_ble_eq_true rfl) d_LF_wantReading_10 d_LF_wantReading_13 d_LF_wantReading_14 d_LF_wantReading_17 d_LF_wantReading_20 (fun ρ h => leaf_eq h)
theorem c_LF_wantReading {l : Launch} {D : va_G} {G : GC} {ad : Nat → Nat} {k0 : Nat} (h0k : Is k0 0) (σ : Mem) : Ctr l D G ad ⟨"LineFrames", "wantReading", "()V"⟩ prog_1_method_20_code 1 none 6 90 [.ref (ad k0)] σ (xrV (f_LF_wantReading k0 σ) σ) := ctr_J (cv := (cvXV σ)) (E := f_LF_wantReading k0 σ) (by decide +kernel) (Nat.le_of_ble_eq_true rfl) (xrV_ok _ _) (fun F h C => by subst h; exact w_LF_wantReading C h0k σ)
/-! LineFrames at (IIIZ)I -/
theorem d_LF_at_0 : decode prog_1_method_14_code 0 = .ok (.aload_n 0, 1) := by decide +kernel
theorem d_LF_at_1 : decode prog_1_method_14_code 1 = .ok (.invokevirtual 234, 3) := by decide +kernel
theorem d_LF_at_4 : decode prog_1_method_14_code 4 = .ok (.aload_n 0, 1) := by decide +kernel
theorem d_LF_at_5 : decode prog_1_method_14_code 5 = .ok (.getfield 53, 3) := by decide +kernel
theorem d_LF_at_8 : decode prog_1_method_14_code 8 = .ok (.getfield 219, 3) := by decide +kernel
theorem d_LF_at_11 : decode prog_1_method_14_code 11 = .ok (.astore 5, 2) := by decide +kernel
theorem d_LF_at_13 : decode prog_1_method_14_code 13 = .ok (.aload 5, 2) := by decide +kernel
theorem d_LF_at_15 : decode prog_1_method_14_code 15 = .ok (.iload_n 1, 1) := by decide +kernel
theorem d_LF_at_16 : decode prog_1_method_14_code 16 = .ok (.iload_n 2, 1) := by decide +kernel
theorem d_LF_at_17 : decode prog_1_method_14_code 17 = .ok (.iload_n 3, 1) := by decide +kernel
theorem d_LF_at_18 : decode prog_1_method_14_code 18 = .ok (.invokevirtual 78, 3) := by decide +kernel
theorem d_LF_at_21 : decode prog_1_method_14_code 21 = .ok (.ifCond .ne 13, 3) := by decide +kernel
theorem d_LF_at_24 : decode prog_1_method_14_code 24 = .ok (.new 82, 3) := by decide +kernel
theorem d_LF_at_27 : decode prog_1_method_14_code 27 = .ok (.dup, 1) := by decide +kernel
theorem d_LF_at_28 : decode prog_1_method_14_code 28 = .ok (.ldc 84, 2) := by decide +kernel
theorem d_LF_at_30 : decode prog_1_method_14_code 30 = .ok (.invokespecial 86, 3) := by decide +kernel
theorem d_LF_at_33 : decode prog_1_method_14_code 33 = .ok (.athrow, 1) := by decide +kernel
theorem d_LF_at_34 : decode prog_1_method_14_code 34 = .ok (.aload 5, 2) := by decide +kernel
theorem d_LF_at_36 : decode prog_1_method_14_code 36 = .ok (.getfield 97, 3) := by decide +kernel
theorem d_LF_at_39 : decode prog_1_method_14_code 39 = .ok (.iload_n 1, 1) := by decide +kernel
theorem d_LF_at_40 : decode prog_1_method_14_code 40 = .ok (.iload_n 2, 1) := by decide +kernel
theorem d_LF_at_41 : decode prog_1_method_14_code 41 = .ok (.iload_n 3, 1) := by decide +kernel
theorem d_LF_at_42 : decode prog_1_method_14_code 42 = .ok (.invokestatic 93, 3) := by decide +kernel
theorem d_LF_at_45 : decode prog_1_method_14_code 45 = .ok (.invokevirtual 101, 3) := by decide +kernel
theorem d_LF_at_48 : decode prog_1_method_14_code 48 = .ok (.istore 6, 2) := by decide +kernel
theorem d_LF_at_50 : decode prog_1_method_14_code 50 = .ok (.iload 4, 2) := by decide +kernel
theorem d_LF_at_52 : decode prog_1_method_14_code 52 = .ok (.ifCond .eq 23, 3) := by decide +kernel
theorem d_LF_at_55 : decode prog_1_method_14_code 55 = .ok (.aload 5, 2) := by decide +kernel
theorem d_LF_at_57 : decode prog_1_method_14_code 57 = .ok (.iload_n 1, 1) := by decide +kernel
theorem d_LF_at_58 : decode prog_1_method_14_code 58 = .ok (.invokevirtual 128, 3) := by decide +kernel
theorem d_LF_at_61 : decode prog_1_method_14_code 61 = .ok (.ifCond .eq 14, 3) := by decide +kernel
theorem d_LF_at_64 : decode prog_1_method_14_code 64 = .ok (.aload 5, 2) := by decide +kernel
theorem d_LF_at_66 : decode prog_1_method_14_code 66 = .ok (.iload_n 1, 1) := by decide +kernel
theorem d_LF_at_67 : decode prog_1_method_14_code 67 = .ok (.iload 6, 2) := by decide +kernel
theorem d_LF_at_69 : decode prog_1_method_14_code 69 = .ok (.invokevirtual 131, 3) := by decide +kernel
theorem d_LF_at_72 : decode prog_1_method_14_code 72 = .ok (.goto 5, 3) := by decide +kernel
theorem d_LF_at_75 : decode prog_1_method_14_code 75 = .ok (.iload 6, 2) := by decide +kernel
theorem d_LF_at_77 : decode prog_1_method_14_code 77 = .ok (.ireturn, 1) := by decide +kernel
def f_LF_at (k0 : Nat) (x1 : Int32) (x2 : Int32) (x3 : Int32) (x4 : Int32) (σ : Mem) : (Int32 ⊕ Nat) :=
  xcase (f_LF_wantReading k0 σ) (fun _ =>
  if (f_PI_hasSample (wtg (wtg k0 5) 1) x1 x2 x3 σ) = 0 then
  (.inr 2)
  else
  lt (f_RO_get (wtg (wtg (wtg k0 5) 1) 0) (f_LF_placeOf x1 x2 x3 σ) σ) fun v3 =>
  (.inl (if x4 = 0 then v3 else (if (f_PI_hasTable (wtg (wtg k0 5) 1) x1 σ) = 0 then v3 else (f_PI_numberOf (wtg (wtg k0 5) 1) x1 v3 σ))))) (fun n => (.inr n))
set_option maxHeartbeats 4000000 in
set_option maxRecDepth 100000 in
theorem w_LF_at {F : Fx} (C : Ctx F prog_1_method_14_code 7 "LineFrames" (some .int) 7 110) {k0 : Nat} (h0k : Is k0 0) (x1 : Int32) (x2 : Int32) (x3 : Int32) (x4 : Int32) (σ : Mem) : J F 7 (cvXI σ) (f_LF_at k0 x1 x2 x3 x4 σ) σ 0 [(0, .ref (fad F k0)), (1, .int x1), (2, .int x2), (3, .int x3), (4, .int x4)] [] := by
  unfold f_LF_at
  refine j_aload_n C d_LF_at_0 0 rfl ?_
  refine j_xcase (fun _ e1 => ?_) (fun n e1 => ?_)
  · refine j_callVv C mv_LF_234 [] [] h0k (ctr_xl e1 (c_LF_wantReading h0k σ)) rfl rfl (by decide) (Nat.le_of_ble_eq_true rfl) d_LF_at_1 ?_
    refine j_aload_n C d_LF_at_4 0 rfl ?_
    refine j_getR C h0k fl_LF_53 rfl d_LF_at_5 ?_
    refine j_getR C (tg_0_5 _ h0k) fl_LF_219 rfl d_LF_at_8 ?_
    refine j_astore (lv9 := [(0, .ref (fad F k0)), (1, .int x1), (2, .int x2), (3, .int x3), (4, .int x4), (5, .ref (fad F (wtg (wtg k0 5) 1)))]) C d_LF_at_11 rfl rfl (by decide) ?_
    refine j_aload C d_LF_at_13 5 rfl ?_
    refine j_iload_n C d_LF_at_15 1 rfl ?_
    refine j_iload_n C d_LF_at_16 2 rfl ?_
    refine j_iload_n C d_LF_at_17 3 rfl ?_
    refine j_callVi C mv_LF_78 [.int x1, .int x2, .int x3] [] (tg_9_1 _ (tg_0_5 _ h0k)) (c_PI_hasSample (tg_9_1 _ (tg_0_5 _ h0k)) x1 x2 x3 σ) rfl rfl (by decide) (Nat.le_of_ble_eq_true rfl) d_LF_at_18 ?_
    refine j_if_ne (tgt := 34) C d_LF_at_21 (by decide) (fun c2 => ?_) (fun c2 => ?_)
    · refine j_aload C d_LF_at_34 5 rfl ?_
      refine j_getR C (tg_9_1 _ (tg_0_5 _ h0k)) fl_LF_97 rfl d_LF_at_36 ?_
      refine j_iload_n C d_LF_at_39 1 rfl ?_
      refine j_iload_n C d_LF_at_40 2 rfl ?_
      refine j_iload_n C d_LF_at_41 3 rfl ?_
      refine j_callSi C ms_LF_93 [.int x1, .int x2, .int x3] [.ref (fad F (wtg (wtg (wtg k0 5) 1) 0))] (c_LF_placeOf x1 x2 x3 σ) rfl rfl (by decide) (Nat.le_of_ble_eq_true rfl) d_LF_at_42 ?_
      refine j_callVi C mv_LF_101 [.int (f_LF_placeOf x1 x2 x3 σ)] [] (tg_7_0 _ (tg_9_1 _ (tg_0_5 _ h0k))) (c_RO_get (tg_7_0 _ (tg_9_1 _ (tg_0_5 _ h0k))) (f_LF_placeOf x1 x2 x3 σ) σ) rfl rfl (by decide) (Nat.le_of_ble_eq_true rfl) d_LF_at_45 ?_
      refine j_nm (fun v3 v3_e => ?_)
      refine j_istore (lv9 := [(0, .ref (fad F k0)), (1, .int x1), (2, .int x2), (3, .int x3), (4, .int x4), (5, .ref (fad F (wtg (wtg k0 5) 1))), (6, .int v3)]) C d_LF_at_48 rfl rfl (by decide) ?_
      refine j_iload C d_LF_at_50 4 rfl ?_
      refine d_if_eq (a := v3) (b := (if (f_PI_hasTable (wtg (wtg k0 5) 1) x1 σ) = 0 then v3 else (f_PI_numberOf (wtg (wtg k0 5) 1) x1 v3 σ))) (jp := 77) (tgt := 75) C d_LF_at_52 (by decide) (fun c6 k7 => ?_) (fun c6 k7 => ?_) ?_
      · refine j_iload C d_LF_at_75 6 rfl ?_
        exact k7
      · refine j_aload C d_LF_at_55 5 rfl ?_
        refine j_iload_n C d_LF_at_57 1 rfl ?_
        refine j_callVi C mv_LF_128 [.int x1] [] (tg_9_1 _ (tg_0_5 _ h0k)) (c_PI_hasTable (tg_9_1 _ (tg_0_5 _ h0k)) x1 σ) rfl rfl (by decide) (Nat.le_of_ble_eq_true rfl) d_LF_at_58 ?_
        refine d_if_eq (a := v3) (b := (f_PI_numberOf (wtg (wtg k0 5) 1) x1 v3 σ)) (jp := 77) (tgt := 75) C d_LF_at_61 (by decide) (fun c8 k9 => ?_) (fun c8 k9 => ?_) ?_
        · refine j_iload C d_LF_at_75 6 rfl ?_
          exact k9
        · refine j_aload C d_LF_at_64 5 rfl ?_
          refine j_iload_n C d_LF_at_66 1 rfl ?_
          refine j_iload C d_LF_at_67 6 rfl ?_
          refine j_callVi C mv_LF_131 [.int x1, .int v3] [] (tg_9_1 _ (tg_0_5 _ h0k)) (c_PI_numberOf (tg_9_1 _ (tg_0_5 _ h0k)) x1 v3 σ) rfl rfl (by decide) (Nat.le_of_ble_eq_true rfl) d_LF_at_69 ?_
          refine j_goto (tgt := 77) C d_LF_at_72 (by decide) ?_
          exact k9
        exact k7
      exact j_ireti C (fun ρ h => leaf_eq h) d_LF_at_77
    · exact j_throw C ox_LF_82_86 (List.mem_of_getElem? (i := 2) rfl) (by decide) (Nat.le_of_ble_eq_true rfl) d_LF_at_24 d_LF_at_27 d_LF_at_28 d_LF_at_30 d_LF_at_33 (fun ρ h => leaf_eq h)
  · refine j_callVx C mv_LF_234 [] [] h0k (ctr_xr e1 (c_LF_wantReading h0k σ)) rfl rfl (by decide) (Nat.le_of_ble_eq_true rfl) d_LF_at_1 (fun ρ h => leaf_eq h)
theorem c_LF_at {l : Launch} {D : va_G} {G : GC} {ad : Nat → Nat} {k0 : Nat} (h0k : Is k0 0) (x1 : Int32) (x2 : Int32) (x3 : Int32) (x4 : Int32) (σ : Mem) : Ctr l D G ad ⟨"LineFrames", "at", "(IIIZ)I"⟩ prog_1_method_14_code 7 (some .int) 7 110 [.ref (ad k0), .int x1, .int x2, .int x3, .int x4] σ (xrI (f_LF_at k0 x1 x2 x3 x4 σ) σ) := ctr_J (cv := (cvXI σ)) (E := f_LF_at k0 x1 x2 x3 x4 σ) (by decide +kernel) (Nat.le_of_ble_eq_true rfl) (xrI_ok _ _) (fun F h C => by subst h; exact w_LF_at C h0k x1 x2 x3 x4 σ)
