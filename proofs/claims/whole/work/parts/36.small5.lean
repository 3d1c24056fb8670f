/-! table, pass -/
def zr (σ : Mem) (a lo n : Nat) : Mem := fun k i => if k = a ∧ lo ≤ i ∧ i < lo + n then 0 else σ k i
set_option maxRecDepth 100000 in
set_option maxHeartbeats 4000000 in
theorem zr_cell {σ : Mem} {a lo n k : Nat} (h : ¬ k = a) : zr σ a lo n k = σ k := by
  funext i
  simp [zr, h]
set_option maxRecDepth 100000 in
set_option maxHeartbeats 4000000 in
theorem zr_row {σ : Mem} {a lo n : Nat} : zr σ a lo n a = fun i => if lo ≤ i ∧ i < lo + n then 0 else σ a i := by
  funext i
  simp [zr]
set_option maxRecDepth 100000 in
set_option maxHeartbeats 4000000 in
theorem zr_0 {σ : Mem} {a lo : Nat} : zr σ a lo 0 = σ := by
  funext k i
  unfold zr
  rw [if_neg (by omega)]
set_option maxRecDepth 100000 in
set_option maxHeartbeats 4000000 in
theorem zr_succ {σ : Mem} {a lo n : Nat} : mput (zr σ a lo n) a (lo + n) 0 = zr σ a lo (n + 1) := by
  funext k i
  rw [mput_app]
  unfold zr
  by_cases h : k = a ∧ i = lo + n
  · rw [if_pos h, if_pos (by omega)]
  · rw [if_neg h]
    by_cases h2 : k = a ∧ lo ≤ i ∧ i < lo + n
    · rw [if_pos h2, if_pos (by omega)]
    · rw [if_neg h2, if_neg (by omega)]
set_option maxRecDepth 100000 in
set_option maxHeartbeats 4000000 in
theorem nI_256 {k j : Nat} : nI k * 256 + nI j = nI (256 * k + j) := by
  rw [show (256 : Int32) = nI 256 from rfl, nI_mul, nI_add]
  congr 1; omega
set_option maxRecDepth 100000 in
set_option maxHeartbeats 4000000 in
theorem nI_256' {k j : Nat} : 256 * nI k + nI j = nI (256 * k + j) := by
  rw [show (256 : Int32) = nI 256 from rfl, nI_mul, nI_add]
set_option maxRecDepth 100000 in
set_option maxHeartbeats 4000000 in
/-- a table is opened in the picture whose numbers lie in row a -/
theorem open_loop {r q a k1 : Nat} {σ : Mem} (h1 : wtg r 3 = q) (h2 : wtg q 0 = a) (h3 : wln a = 1024) (hk : k1 < 4) : L_PI_openTable_11 r (nI k1) 9999 0 σ = some (nI 256, zr σ a (256 * k1) 256) := by
  obtain ⟨x, e1, e2⟩ := loopS (C := fun n k s => L_PI_openTable_11 r (nI k1) n (nI k) s) (P := fun k s => s = zr σ a (256 * k1) k) (Q := fun x => x = (nI 256, zr σ a (256 * k1) 256)) (hi := 256) (fun s hs n => ⟨_, by
      show L_PI_openTable_11 r (nI k1) (n + 1) (nI 256) s = _
      rw [L_PI_openTable_11]
      exact if_pos (by decide), by rw [hs]⟩) (fun k s hk2 hs => Or.inl ⟨zr σ a (256 * k1) (k + 1), fun n => by
      show L_PI_openTable_11 r (nI k1) (n + 1) (nI k) s = _
      rw [L_PI_openTable_11]
      unfold lt
      rw [if_neg (show ¬ (256 : Int32) ≤ nI k from nI_ge (b := 256) hk2 (by decide)), h1, nI_256, ro_set (k := q) (a := a) (n := 1024) h2 h3 (by omega) (by decide), hs, zr_succ, nI_1], rfl⟩) 256 9999 0 σ (by omega) (by omega) zr_0.symm
  rw [← e2]
  exact e1
set_option maxRecDepth 100000 in
set_option maxHeartbeats 4000000 in
theorem table_loop {k1 : Nat} {σ : Mem} {x2 x3 x4 : Int32} (hk : k1 < 4) (h0 : σ 58 k1 = 0) : L_RM_table_96 56 (nI k1) x2 x3 x4 9999 0 σ = some (nI 256, zr σ 59 (256 * k1) 256) := by
  obtain ⟨x, e1, e2⟩ := loopS (C := fun n k s => L_RM_table_96 56 (nI k1) x2 x3 x4 n (nI k) s) (P := fun k s => s = zr σ 59 (256 * k1) k) (Q := fun x => x = (nI 256, zr σ 59 (256 * k1) 256)) (hi := 256) (fun s hs n => ⟨_, by
      show L_RM_table_96 56 (nI k1) x2 x3 x4 (n + 1) (nI 256) s = _
      rw [L_RM_table_96]
      exact if_pos (by decide), by rw [hs]⟩) (fun k s hk2 hs => Or.inl ⟨zr σ 59 (256 * k1) (k + 1), fun n => by
      show L_RM_table_96 56 (nI k1) x2 x3 x4 (n + 1) (nI k) s = _
      rw [L_RM_table_96]
      unfold lt
      simp only [wt_0_1, wt_0_2, wt_0_3, wt_0_4, wt_0_5, wt_1_0, wt_1_1, wt_1_2, wt_1_3, wt_1_4, wt_2_0, wl_3, wt_4_0, wl_5, wt_6_0, wl_7, wt_8_0, wl_9, wt_10_0, wt_10_1, wt_10_2, wt_11_0, wl_12, wt_13_0, wl_14, wt_15_0, wl_16, wt_17_0, wl_18, wt_19_0, wl_20, wt_21_0, wt_21_1, wt_21_2, wt_21_3, wt_22_0, wt_22_1, wt_22_2, wt_23_0, wl_24, wt_25_0, wl_26, wt_27_0, wl_28, wt_29_0, wt_30_0, wt_30_1, wt_30_2, wt_30_3, wt_30_4, wt_30_5, wt_31_0, wt_31_1, wt_31_2, wt_31_3, wt_31_4, wt_32_0, wl_33, wt_34_0, wl_35, wt_36_0, wl_37, wt_38_0, wl_39, wt_40_0, wt_40_1, wt_40_2, wt_41_0, wl_42, wt_43_0, wl_44, wt_45_0, wl_46, wt_48_0, wt_48_1, wt_49_0, wt_49_1, wt_49_2, wt_50_0, wl_51, wt_52_0, wl_53, wt_54_0, wl_55, wt_56_6, wt_56_7, wt_56_8, wt_56_13, wt_56_14, wt_56_15, wt_56_16, wt_56_18, wt_56_21, wt_56_22, wt_56_23, wt_56_24, wt_56_25, wt_56_26, wt_56_27, wt_56_44, wt_56_45, wt_56_46, wt_56_47, wt_56_48, wt_56_49, wt_56_50, wt_56_51, wt_56_52, wt_56_53, wl_57, wl_58, wl_59, wl_60, wl_61, wl_62, wl_63, wl_64, wl_65, wl_66, wl_67, wl_68, wl_69, wl_70, wl_71, wl_72, wl_73, wl_74, wl_75, wl_76, wl_77, wl_78, wl_79, wl_80, wl_81, wl_82]
      rw [if_neg (show ¬ (256 : Int32) ≤ nI k from nI_ge (b := 256) hk2 (by decide)), if_pos (inb_nI hk (by decide)), nI_256', if_pos (inb_nI (by omega) (by decide)), nI_clamp (by omega), nI_clamp (by omega), hs, zr_cell (by decide), if_pos h0, zr_succ, nI_1], rfl⟩) 256 9999 0 σ (by omega) (by omega) zr_0.symm
  rw [← e2]
  exact e1
set_option maxRecDepth 100000 in
set_option maxHeartbeats 4000000 in
theorem table_loop1 {k1 : Nat} {σ : Mem} {x2 x3 x4 : Int32} (hk : k1 < 4) (h0 : ¬ σ 58 k1 = 0) : L_RM_table_96 56 (nI k1) x2 x3 x4 9999 0 σ = some (0, σ) := by
  rw [L_RM_table_96]
  simp only [wt_0_1, wt_0_2, wt_0_3, wt_0_4, wt_0_5, wt_1_0, wt_1_1, wt_1_2, wt_1_3, wt_1_4, wt_2_0, wl_3, wt_4_0, wl_5, wt_6_0, wl_7, wt_8_0, wl_9, wt_10_0, wt_10_1, wt_10_2, wt_11_0, wl_12, wt_13_0, wl_14, wt_15_0, wl_16, wt_17_0, wl_18, wt_19_0, wl_20, wt_21_0, wt_21_1, wt_21_2, wt_21_3, wt_22_0, wt_22_1, wt_22_2, wt_23_0, wl_24, wt_25_0, wl_26, wt_27_0, wl_28, wt_29_0, wt_30_0, wt_30_1, wt_30_2, wt_30_3, wt_30_4, wt_30_5, wt_31_0, wt_31_1, wt_31_2, wt_31_3, wt_31_4, wt_32_0, wl_33, wt_34_0, wl_35, wt_36_0, wl_37, wt_38_0, wl_39, wt_40_0, wt_40_1, wt_40_2, wt_41_0, wl_42, wt_43_0, wl_44, wt_45_0, wl_46, wt_48_0, wt_48_1, wt_49_0, wt_49_1, wt_49_2, wt_50_0, wl_51, wt_52_0, wl_53, wt_54_0, wl_55, wt_56_6, wt_56_7, wt_56_8, wt_56_13, wt_56_14, wt_56_15, wt_56_16, wt_56_18, wt_56_21, wt_56_22, wt_56_23, wt_56_24, wt_56_25, wt_56_26, wt_56_27, wt_56_44, wt_56_45, wt_56_46, wt_56_47, wt_56_48, wt_56_49, wt_56_50, wt_56_51, wt_56_52, wt_56_53, wl_57, wl_58, wl_59, wl_60, wl_61, wl_62, wl_63, wl_64, wl_65, wl_66, wl_67, wl_68, wl_69, wl_70, wl_71, wl_72, wl_73, wl_74, wl_75, wl_76, wl_77, wl_78, wl_79, wl_80, wl_81, wl_82]
  rw [if_neg (by decide), if_pos (inb_nI hk (by decide)), nI_clamp (by omega), if_neg h0]
set_option maxRecDepth 100000 in
set_option maxHeartbeats 4000000 in
theorem o_table : O_table Inv := by
  intro σ p1 p2 p3 hI
  refine owed_of4 hI (fun τ H => ?_)
  obtain ⟨-, ⟨w, h, b, c, nn, rs, st, rt, hPic⟩, -, -, -⟩ := id H
  obtain ⟨⟨s1, s2, s3, s4⟩, ⟨r1, r2, r3, r4⟩, hn, hd, hsam, htab, hnum, hpre, hk, hs, hby⟩ := id hPic
  by_cases hc : c = 0
  · subst hc
    refine ⟨(.inr 1, σ), ?_, fin_thr (n := 1) (k := 1) H rfl ?_ (by decide) (by decide)⟩
    · unfold f_LF_table f_LF_wantPicture xcase
      simp only [wt_0_1, wt_0_2, wt_0_3, wt_0_4, wt_0_5, wt_1_0, wt_1_1, wt_1_2, wt_1_3, wt_1_4, wt_2_0, wl_3, wt_4_0, wl_5, wt_6_0, wl_7, wt_8_0, wl_9, wt_10_0, wt_10_1, wt_10_2, wt_11_0, wl_12, wt_13_0, wl_14, wt_15_0, wl_16, wt_17_0, wl_18, wt_19_0, wl_20, wt_21_0, wt_21_1, wt_21_2, wt_21_3, wt_22_0, wt_22_1, wt_22_2, wt_23_0, wl_24, wt_25_0, wl_26, wt_27_0, wl_28, wt_29_0, wt_30_0, wt_30_1, wt_30_2, wt_30_3, wt_30_4, wt_30_5, wt_31_0, wt_31_1, wt_31_2, wt_31_3, wt_31_4, wt_32_0, wl_33, wt_34_0, wl_35, wt_36_0, wl_37, wt_38_0, wl_39, wt_40_0, wt_40_1, wt_40_2, wt_41_0, wl_42, wt_43_0, wl_44, wt_45_0, wl_46, wt_48_0, wt_48_1, wt_49_0, wt_49_1, wt_49_2, wt_50_0, wl_51, wt_52_0, wl_53, wt_54_0, wl_55, wt_56_6, wt_56_7, wt_56_8, wt_56_13, wt_56_14, wt_56_15, wt_56_16, wt_56_18, wt_56_21, wt_56_22, wt_56_23, wt_56_24, wt_56_25, wt_56_26, wt_56_27, wt_56_44, wt_56_45, wt_56_46, wt_56_47, wt_56_48, wt_56_49, wt_56_50, wt_56_51, wt_56_52, wt_56_53, wl_57, wl_58, wl_59, wl_60, wl_61, wl_62, wl_63, wl_64, wl_65, wl_66, wl_67, wl_68, wl_69, wl_70, wl_71, wl_72, wl_73, wl_74, wl_75, wl_76, wl_77, wl_78, wl_79, wl_80, wl_81, wl_82, s4, show nI 0 = 0 from rfl, if_true]
    · unfold f_RM_table lt
      simp only [r4, show nI 0 = 0 from rfl, if_true, mput_app, and_self]
      rw [if_neg (by decide)]
  have hc0 : ¬ nI c = 0 := nI_c0 hc (by omega)
  have hb : b ≤ 8 := by omega
  have hp := pow_le hb
  have hq := pow_pos' (b := b)
  have eN : ∀ x : Int32, f_PI_hasComponent 1 x σ = inI x c := fun x => by unfold f_PI_hasComponent inI; rw [s4]
  have eM : ∀ x : Int32, f_RM_isIn x (0 : Int32) (nI c - 1) τ = inI x c := fun x => isIn0 (by omega)
  have eS : ∀ x : Int32, f_PI_mayBeSample 1 x σ = inI x (2 ^ b) := fun x => by
    unfold f_PI_mayBeSample f_PI_top
    rw [s3, top_nI hb]
    have := isInN (x := x) (c := 2 ^ b - 1) (τ := τ) (by omega)
    rw [show 2 ^ b - 1 + 1 = 2 ^ b by omega] at this
    rw [← this]
    rfl
  have eT : ∀ x : Int32, f_RM_isIn x (0 : Int32) (f_RM_topOf (nI b) τ) τ = inI x (2 ^ b) := fun x => by
    unfold f_RM_topOf
    rw [top_nI hb, isInN (by omega), show 2 ^ b - 1 + 1 = 2 ^ b by omega]
  rcases inI_cases p1 (c := c) (by omega) with h1 | ⟨k1, hk1, rfl⟩
  · refine ⟨(.inr 2, σ), ?_, fin_thr (n := 2) (k := 2) H rfl ?_ (by decide) (by decide)⟩
    · unfold f_LF_table f_LF_wantPicture xcase
      simp only [wt_0_1, wt_0_2, wt_0_3, wt_0_4, wt_0_5, wt_1_0, wt_1_1, wt_1_2, wt_1_3, wt_1_4, wt_2_0, wl_3, wt_4_0, wl_5, wt_6_0, wl_7, wt_8_0, wl_9, wt_10_0, wt_10_1, wt_10_2, wt_11_0, wl_12, wt_13_0, wl_14, wt_15_0, wl_16, wt_17_0, wl_18, wt_19_0, wl_20, wt_21_0, wt_21_1, wt_21_2, wt_21_3, wt_22_0, wt_22_1, wt_22_2, wt_23_0, wl_24, wt_25_0, wl_26, wt_27_0, wl_28, wt_29_0, wt_30_0, wt_30_1, wt_30_2, wt_30_3, wt_30_4, wt_30_5, wt_31_0, wt_31_1, wt_31_2, wt_31_3, wt_31_4, wt_32_0, wl_33, wt_34_0, wl_35, wt_36_0, wl_37, wt_38_0, wl_39, wt_40_0, wt_40_1, wt_40_2, wt_41_0, wl_42, wt_43_0, wl_44, wt_45_0, wl_46, wt_48_0, wt_48_1, wt_49_0, wt_49_1, wt_49_2, wt_50_0, wl_51, wt_52_0, wl_53, wt_54_0, wl_55, wt_56_6, wt_56_7, wt_56_8, wt_56_13, wt_56_14, wt_56_15, wt_56_16, wt_56_18, wt_56_21, wt_56_22, wt_56_23, wt_56_24, wt_56_25, wt_56_26, wt_56_27, wt_56_44, wt_56_45, wt_56_46, wt_56_47, wt_56_48, wt_56_49, wt_56_50, wt_56_51, wt_56_52, wt_56_53, wl_57, wl_58, wl_59, wl_60, wl_61, wl_62, wl_63, wl_64, wl_65, wl_66, wl_67, wl_68, wl_69, wl_70, wl_71, wl_72, wl_73, wl_74, wl_75, wl_76, wl_77, wl_78, wl_79, wl_80, wl_81, wl_82, s4, hc0, if_false, eN, h1, if_true]
    · unfold f_RM_table f_RM_isComponent lt
      simp only [r4, hc0, if_false, eM, h1, if_true, mput_app, and_self]
      rw [if_neg (by decide)]
  have y1 : inI (nI k1) c = 1 := inI_yes hk1 (by omega)
  rcases inI_cases p2 (c := 2 ^ b) (by omega) with h2 | ⟨k2, hk2, rfl⟩
  · refine ⟨(.inr 3, σ), ?_, fin_thr (n := 3) (k := 3) H rfl ?_ (by decide) (by decide)⟩
    · unfold f_LF_table f_LF_wantPicture xcase
      simp only [wt_0_1, wt_0_2, wt_0_3, wt_0_4, wt_0_5, wt_1_0, wt_1_1, wt_1_2, wt_1_3, wt_1_4, wt_2_0, wl_3, wt_4_0, wl_5, wt_6_0, wl_7, wt_8_0, wl_9, wt_10_0, wt_10_1, wt_10_2, wt_11_0, wl_12, wt_13_0, wl_14, wt_15_0, wl_16, wt_17_0, wl_18, wt_19_0, wl_20, wt_21_0, wt_21_1, wt_21_2, wt_21_3, wt_22_0, wt_22_1, wt_22_2, wt_23_0, wl_24, wt_25_0, wl_26, wt_27_0, wl_28, wt_29_0, wt_30_0, wt_30_1, wt_30_2, wt_30_3, wt_30_4, wt_30_5, wt_31_0, wt_31_1, wt_31_2, wt_31_3, wt_31_4, wt_32_0, wl_33, wt_34_0, wl_35, wt_36_0, wl_37, wt_38_0, wl_39, wt_40_0, wt_40_1, wt_40_2, wt_41_0, wl_42, wt_43_0, wl_44, wt_45_0, wl_46, wt_48_0, wt_48_1, wt_49_0, wt_49_1, wt_49_2, wt_50_0, wl_51, wt_52_0, wl_53, wt_54_0, wl_55, wt_56_6, wt_56_7, wt_56_8, wt_56_13, wt_56_14, wt_56_15, wt_56_16, wt_56_18, wt_56_21, wt_56_22, wt_56_23, wt_56_24, wt_56_25, wt_56_26, wt_56_27, wt_56_44, wt_56_45, wt_56_46, wt_56_47, wt_56_48, wt_56_49, wt_56_50, wt_56_51, wt_56_52, wt_56_53, wl_57, wl_58, wl_59, wl_60, wl_61, wl_62, wl_63, wl_64, wl_65, wl_66, wl_67, wl_68, wl_69, wl_70, wl_71, wl_72, wl_73, wl_74, wl_75, wl_76, wl_77, wl_78, wl_79, wl_80, wl_81, wl_82, s4, hc0, if_false, eN, y1, show ¬ (1 : Int32) = 0 by decide, eS, h2, if_true]
    · unfold f_RM_table f_RM_isComponent lt
      simp only [r3, r4, hc0, if_false, eM, y1, show ¬ (1 : Int32) = 0 by decide, eT, h2, if_true, mput_app, and_self]
      rw [if_neg (by decide)]
  have y2 : inI (nI k2) (2 ^ b) = 1 := inI_yes hk2 (by omega)
  by_cases b3 : p3 < 0 ∨ ¬ p3 ≤ 65535
  · have e3 : f_RM_isIn p3 (0 : Int32) (65535 : Int32) τ = 0 := by
      rw [isIn_1]
      by_cases z : p3 < 0
      · rw [if_pos z]
      · rw [if_neg z, if_pos (Int32.not_le.mp (b3.resolve_left z))]
    refine ⟨(.inr 3, σ), ?_, fin_thr (n := 3) (k := 3) H rfl ?_ (by decide) (by decide)⟩
    · unfold f_LF_table f_LF_wantPicture xcase
      simp only [wt_0_1, wt_0_2, wt_0_3, wt_0_4, wt_0_5, wt_1_0, wt_1_1, wt_1_2, wt_1_3, wt_1_4, wt_2_0, wl_3, wt_4_0, wl_5, wt_6_0, wl_7, wt_8_0, wl_9, wt_10_0, wt_10_1, wt_10_2, wt_11_0, wl_12, wt_13_0, wl_14, wt_15_0, wl_16, wt_17_0, wl_18, wt_19_0, wl_20, wt_21_0, wt_21_1, wt_21_2, wt_21_3, wt_22_0, wt_22_1, wt_22_2, wt_23_0, wl_24, wt_25_0, wl_26, wt_27_0, wl_28, wt_29_0, wt_30_0, wt_30_1, wt_30_2, wt_30_3, wt_30_4, wt_30_5, wt_31_0, wt_31_1, wt_31_2, wt_31_3, wt_31_4, wt_32_0, wl_33, wt_34_0, wl_35, wt_36_0, wl_37, wt_38_0, wl_39, wt_40_0, wt_40_1, wt_40_2, wt_41_0, wl_42, wt_43_0, wl_44, wt_45_0, wl_46, wt_48_0, wt_48_1, wt_49_0, wt_49_1, wt_49_2, wt_50_0, wl_51, wt_52_0, wl_53, wt_54_0, wl_55, wt_56_6, wt_56_7, wt_56_8, wt_56_13, wt_56_14, wt_56_15, wt_56_16, wt_56_18, wt_56_21, wt_56_22, wt_56_23, wt_56_24, wt_56_25, wt_56_26, wt_56_27, wt_56_44, wt_56_45, wt_56_46, wt_56_47, wt_56_48, wt_56_49, wt_56_50, wt_56_51, wt_56_52, wt_56_53, wl_57, wl_58, wl_59, wl_60, wl_61, wl_62, wl_63, wl_64, wl_65, wl_66, wl_67, wl_68, wl_69, wl_70, wl_71, wl_72, wl_73, wl_74, wl_75, wl_76, wl_77, wl_78, wl_79, wl_80, wl_81, wl_82, s4, hc0, if_false, eN, y1, show ¬ (1 : Int32) = 0 by decide, eS, y2]
      by_cases z : p3 < 0
      · simp only [z, if_true]
      · simp only [z, b3.resolve_left z, if_false]
    · unfold f_RM_table f_RM_isComponent lt
      simp only [r3, r4, hc0, if_false, eM, y1, show ¬ (1 : Int32) = 0 by decide, eT, y2, e3, if_true, mput_app, and_self]
      rw [if_neg (by decide)]
  have z1 : ¬ p3 < 0 := fun z => b3 (Or.inl z)
  have z2 : p3 ≤ 65535 := Classical.not_not.mp (fun z => b3 (Or.inr z))
  obtain ⟨v, hv, rfl⟩ := i32_of (n := 65535) z1 z2 (by decide)
  have e3 : f_RM_isIn (nI v) (0 : Int32) (65535 : Int32) τ = 1 := by
    rw [isIn_1, if_neg z1, if_neg (Int32.not_lt.mpr z2)]
  have nz1 : nz 1 = 1 := by decide
  have eH : f_PI_hasTable 1 (nI k1) σ = if τ 58 k1 = 0 then 0 else 1 := by
    unfold f_PI_hasTable
    simp only [wt_0_1, wt_0_2, wt_0_3, wt_0_4, wt_0_5, wt_1_0, wt_1_1, wt_1_2, wt_1_3, wt_1_4, wt_2_0, wl_3, wt_4_0, wl_5, wt_6_0, wl_7, wt_8_0, wl_9, wt_10_0, wt_10_1, wt_10_2, wt_11_0, wl_12, wt_13_0, wl_14, wt_15_0, wl_16, wt_17_0, wl_18, wt_19_0, wl_20, wt_21_0, wt_21_1, wt_21_2, wt_21_3, wt_22_0, wt_22_1, wt_22_2, wt_23_0, wl_24, wt_25_0, wl_26, wt_27_0, wl_28, wt_29_0, wt_30_0, wt_30_1, wt_30_2, wt_30_3, wt_30_4, wt_30_5, wt_31_0, wt_31_1, wt_31_2, wt_31_3, wt_31_4, wt_32_0, wl_33, wt_34_0, wl_35, wt_36_0, wl_37, wt_38_0, wl_39, wt_40_0, wt_40_1, wt_40_2, wt_41_0, wl_42, wt_43_0, wl_44, wt_45_0, wl_46, wt_48_0, wt_48_1, wt_49_0, wt_49_1, wt_49_2, wt_50_0, wl_51, wt_52_0, wl_53, wt_54_0, wl_55, wt_56_6, wt_56_7, wt_56_8, wt_56_13, wt_56_14, wt_56_15, wt_56_16, wt_56_18, wt_56_21, wt_56_22, wt_56_23, wt_56_24, wt_56_25, wt_56_26, wt_56_27, wt_56_44, wt_56_45, wt_56_46, wt_56_47, wt_56_48, wt_56_49, wt_56_50, wt_56_51, wt_56_52, wt_56_53, wl_57, wl_58, wl_59, wl_60, wl_61, wl_62, wl_63, wl_64, wl_65, wl_66, wl_67, wl_68, wl_69, wl_70, wl_71, wl_72, wl_73, wl_74, wl_75, wl_76, wl_77, wl_78, wl_79, wl_80, wl_81, wl_82]
    rw [ro_get (a := 7) (n := 4) (by decide +kernel) (by decide +kernel) (by omega) (by decide)]
    simp only [htab k1 (show k1 < 4 by omega)]
  have eU : f_PI_numberOf 1 (nI k1) (nI k2) σ = τ 59 (256 * k1 + k2) := by
    unfold f_PI_numberOf
    simp only [wt_0_1, wt_0_2, wt_0_3, wt_0_4, wt_0_5, wt_1_0, wt_1_1, wt_1_2, wt_1_3, wt_1_4, wt_2_0, wl_3, wt_4_0, wl_5, wt_6_0, wl_7, wt_8_0, wl_9, wt_10_0, wt_10_1, wt_10_2, wt_11_0, wl_12, wt_13_0, wl_14, wt_15_0, wl_16, wt_17_0, wl_18, wt_19_0, wl_20, wt_21_0, wt_21_1, wt_21_2, wt_21_3, wt_22_0, wt_22_1, wt_22_2, wt_23_0, wl_24, wt_25_0, wl_26, wt_27_0, wl_28, wt_29_0, wt_30_0, wt_30_1, wt_30_2, wt_30_3, wt_30_4, wt_30_5, wt_31_0, wt_31_1, wt_31_2, wt_31_3, wt_31_4, wt_32_0, wl_33, wt_34_0, wl_35, wt_36_0, wl_37, wt_38_0, wl_39, wt_40_0, wt_40_1, wt_40_2, wt_41_0, wl_42, wt_43_0, wl_44, wt_45_0, wl_46, wt_48_0, wt_48_1, wt_49_0, wt_49_1, wt_49_2, wt_50_0, wl_51, wt_52_0, wl_53, wt_54_0, wl_55, wt_56_6, wt_56_7, wt_56_8, wt_56_13, wt_56_14, wt_56_15, wt_56_16, wt_56_18, wt_56_21, wt_56_22, wt_56_23, wt_56_24, wt_56_25, wt_56_26, wt_56_27, wt_56_44, wt_56_45, wt_56_46, wt_56_47, wt_56_48, wt_56_49, wt_56_50, wt_56_51, wt_56_52, wt_56_53, wl_57, wl_58, wl_59, wl_60, wl_61, wl_62, wl_63, wl_64, wl_65, wl_66, wl_67, wl_68, wl_69, wl_70, wl_71, wl_72, wl_73, wl_74, wl_75, wl_76, wl_77, wl_78, wl_79, wl_80, wl_81, wl_82]
    rw [nI_256, ro_get (a := 9) (n := 1024) (by decide +kernel) (by decide +kernel) (by omega) (by decide), hnum.1 _ (by omega)]
  have eW : ∀ s, f_PI_setNumber 1 (nI k1) (nI k2) (nI v) s = mput s 9 (256 * k1 + k2) (nI v) := by
    intro s
    unfold f_PI_setNumber lt
    simp only [wt_0_1, wt_0_2, wt_0_3, wt_0_4, wt_0_5, wt_1_0, wt_1_1, wt_1_2, wt_1_3, wt_1_4, wt_2_0, wl_3, wt_4_0, wl_5, wt_6_0, wl_7, wt_8_0, wl_9, wt_10_0, wt_10_1, wt_10_2, wt_11_0, wl_12, wt_13_0, wl_14, wt_15_0, wl_16, wt_17_0, wl_18, wt_19_0, wl_20, wt_21_0, wt_21_1, wt_21_2, wt_21_3, wt_22_0, wt_22_1, wt_22_2, wt_23_0, wl_24, wt_25_0, wl_26, wt_27_0, wl_28, wt_29_0, wt_30_0, wt_30_1, wt_30_2, wt_30_3, wt_30_4, wt_30_5, wt_31_0, wt_31_1, wt_31_2, wt_31_3, wt_31_4, wt_32_0, wl_33, wt_34_0, wl_35, wt_36_0, wl_37, wt_38_0, wl_39, wt_40_0, wt_40_1, wt_40_2, wt_41_0, wl_42, wt_43_0, wl_44, wt_45_0, wl_46, wt_48_0, wt_48_1, wt_49_0, wt_49_1, wt_49_2, wt_50_0, wl_51, wt_52_0, wl_53, wt_54_0, wl_55, wt_56_6, wt_56_7, wt_56_8, wt_56_13, wt_56_14, wt_56_15, wt_56_16, wt_56_18, wt_56_21, wt_56_22, wt_56_23, wt_56_24, wt_56_25, wt_56_26, wt_56_27, wt_56_44, wt_56_45, wt_56_46, wt_56_47, wt_56_48, wt_56_49, wt_56_50, wt_56_51, wt_56_52, wt_56_53, wl_57, wl_58, wl_59, wl_60, wl_61, wl_62, wl_63, wl_64, wl_65, wl_66, wl_67, wl_68, wl_69, wl_70, wl_71, wl_72, wl_73, wl_74, wl_75, wl_76, wl_77, wl_78, wl_79, wl_80, wl_81, wl_82]
    rw [nI_256, ro_set (k := 8) (a := 9) (n := 1024) (by decide +kernel) (by decide +kernel) (by omega) (by decide)]
  by_cases ht : τ 58 k1 = 0
  · have eF : f_LF_table 0 (nI k1) (nI k2) (nI v) σ = some (.inl (-1), mput (zr (mput σ 7 k1 1) 9 (256 * k1) 256) 9 (256 * k1 + k2) (nI v)) := by
      unfold f_LF_table f_LF_wantPicture f_PI_openTable xcase lt
      simp only [wt_0_1, wt_0_2, wt_0_3, wt_0_4, wt_0_5, wt_1_0, wt_1_1, wt_1_2, wt_1_3, wt_1_4, wt_2_0, wl_3, wt_4_0, wl_5, wt_6_0, wl_7, wt_8_0, wl_9, wt_10_0, wt_10_1, wt_10_2, wt_11_0, wl_12, wt_13_0, wl_14, wt_15_0, wl_16, wt_17_0, wl_18, wt_19_0, wl_20, wt_21_0, wt_21_1, wt_21_2, wt_21_3, wt_22_0, wt_22_1, wt_22_2, wt_23_0, wl_24, wt_25_0, wl_26, wt_27_0, wl_28, wt_29_0, wt_30_0, wt_30_1, wt_30_2, wt_30_3, wt_30_4, wt_30_5, wt_31_0, wt_31_1, wt_31_2, wt_31_3, wt_31_4, wt_32_0, wl_33, wt_34_0, wl_35, wt_36_0, wl_37, wt_38_0, wl_39, wt_40_0, wt_40_1, wt_40_2, wt_41_0, wl_42, wt_43_0, wl_44, wt_45_0, wl_46, wt_48_0, wt_48_1, wt_49_0, wt_49_1, wt_49_2, wt_50_0, wl_51, wt_52_0, wl_53, wt_54_0, wl_55, wt_56_6, wt_56_7, wt_56_8, wt_56_13, wt_56_14, wt_56_15, wt_56_16, wt_56_18, wt_56_21, wt_56_22, wt_56_23, wt_56_24, wt_56_25, wt_56_26, wt_56_27, wt_56_44, wt_56_45, wt_56_46, wt_56_47, wt_56_48, wt_56_49, wt_56_50, wt_56_51, wt_56_52, wt_56_53, wl_57, wl_58, wl_59, wl_60, wl_61, wl_62, wl_63, wl_64, wl_65, wl_66, wl_67, wl_68, wl_69, wl_70, wl_71, wl_72, wl_73, wl_74, wl_75, wl_76, wl_77, wl_78, wl_79, wl_80, wl_81, wl_82, s4, hc0, if_false, eN, y1, show ¬ (1 : Int32) = 0 by decide, eS, y2, z1, z2, if_true, eH, ht]
      rw [ro_set (k := 6) (a := 7) (n := 4) (by decide +kernel) (by decide +kernel) (by omega) (by decide), open_loop (r := 1) (q := 8) (a := 9) (by decide +kernel) (by decide +kernel) (by decide +kernel) (by omega)]
      simp only [Option.bind_some, eW]
    have eR : f_RM_table 56 (nI k1) (nI k2) (nI v) τ = some (-1, mput (mput (zr (mput τ 56 1 0) 59 (256 * k1) 256) 58 k1 1) 59 (256 * k1 + k2) (nI v)) := by
      unfold f_RM_table f_RM_isComponent lt
      simp only [wt_0_1, wt_0_2, wt_0_3, wt_0_4, wt_0_5, wt_1_0, wt_1_1, wt_1_2, wt_1_3, wt_1_4, wt_2_0, wl_3, wt_4_0, wl_5, wt_6_0, wl_7, wt_8_0, wl_9, wt_10_0, wt_10_1, wt_10_2, wt_11_0, wl_12, wt_13_0, wl_14, wt_15_0, wl_16, wt_17_0, wl_18, wt_19_0, wl_20, wt_21_0, wt_21_1, wt_21_2, wt_21_3, wt_22_0, wt_22_1, wt_22_2, wt_23_0, wl_24, wt_25_0, wl_26, wt_27_0, wl_28, wt_29_0, wt_30_0, wt_30_1, wt_30_2, wt_30_3, wt_30_4, wt_30_5, wt_31_0, wt_31_1, wt_31_2, wt_31_3, wt_31_4, wt_32_0, wl_33, wt_34_0, wl_35, wt_36_0, wl_37, wt_38_0, wl_39, wt_40_0, wt_40_1, wt_40_2, wt_41_0, wl_42, wt_43_0, wl_44, wt_45_0, wl_46, wt_48_0, wt_48_1, wt_49_0, wt_49_1, wt_49_2, wt_50_0, wl_51, wt_52_0, wl_53, wt_54_0, wl_55, wt_56_6, wt_56_7, wt_56_8, wt_56_13, wt_56_14, wt_56_15, wt_56_16, wt_56_18, wt_56_21, wt_56_22, wt_56_23, wt_56_24, wt_56_25, wt_56_26, wt_56_27, wt_56_44, wt_56_45, wt_56_46, wt_56_47, wt_56_48, wt_56_49, wt_56_50, wt_56_51, wt_56_52, wt_56_53, wl_57, wl_58, wl_59, wl_60, wl_61, wl_62, wl_63, wl_64, wl_65, wl_66, wl_67, wl_68, wl_69, wl_70, wl_71, wl_72, wl_73, wl_74, wl_75, wl_76, wl_77, wl_78, wl_79, wl_80, wl_81, wl_82, r3, r4, hc0, if_false, eM, y1, show ¬ (1 : Int32) = 0 by decide, eT, y2, e3, mput_app, and_self, if_true, show (0 : Int32) ≤ 0 by decide, inb_nI (show k1 < 4 by omega) (by decide), nI_clamp (show k1 < 2 ^ 31 by omega), Nat.reduceEqDiff, false_and, ht, nz1]
      rw [table_loop (by omega) (by rw [mput_cell (by decide)]; exact ht)]
      simp only [Option.bind_some, nI_256', inb_nI (show 256 * k1 + k2 < 1024 by omega) (by decide), nI_clamp (show 256 * k1 + k2 < 2 ^ 31 by omega), if_true]
    refine ⟨_, eF, fin_ok rfl eR ?_ ?_ ?_ (by simp [mput_app, zr])⟩
    · intro k hk
      simp only [mput_cell (show ¬ k = 9 by omega), mput_cell (show ¬ k = 7 by omega), zr_cell (show ¬ k = 9 by omega)]
    · intro k hk
      simp only [mput_cell (show ¬ k = 59 by omega), mput_cell (show ¬ k = 58 by omega), mput_cell (show ¬ k = 56 by omega), zr_cell (show ¬ k = 59 by omega)]
    · refine H.pic (fun k hk => ?_) (fun j hj => ?_) (fun k hk => ?_) (w := w) (h := h) (b := b) (c := c) (nn := nn) (rs := rs) (st := st) (rt := rt) ?_
      · simp only [mput_cell (show ¬ k = 9 by omega), mput_cell (show ¬ k = 7 by omega), zr_cell (show ¬ k = 9 by omega)]
      · simp [mput_app, zr, show ¬ j = 1 by omega]
      · simp only [mput_cell (show ¬ k = 59 by omega), mput_cell (show ¬ k = 58 by omega), mput_cell (show ¬ k = 56 by omega), zr_cell (show ¬ k = 59 by omega)]
      · unfold RPic
        simp only [mput_row, mput_cell, zr_row, zr_cell, Nat.reduceEqDiff, not_false_eq_true]
        refine ⟨⟨s1, s2, s3, s4⟩, by simp [upd, r1, r2, r3, r4], by simpa [upd] using hn, hd, hsam, eqz_upd htab, ⟨eqn_upd ?_, bnd_upd ?_ hv⟩, by simpa [upd] using hpre, hk, hs, hby⟩
        · intro i hi
          show (if 256 * k1 ≤ i ∧ i < 256 * k1 + 256 then (0 : Int32) else σ 9 i) = if 256 * k1 ≤ i ∧ i < 256 * k1 + 256 then 0 else τ 59 i
          rw [hnum.1 i hi]
        · intro i hi
          by_cases z : 256 * k1 ≤ i ∧ i < 256 * k1 + 256
          · exact ⟨0, by omega, by simp [z]; rfl⟩
          · simp only [z, if_false]
            exact hnum.2 i hi
  · obtain ⟨u, hu, eu⟩ := hnum.2 (256 * k1 + k2) (by omega)
    rw [hnum.1 _ (by omega)] at eu
    have un : ¬ nI u = -1 := by
      intro z
      have : (nI u).toInt = -1 := by rw [z]; rfl
      rw [nI_toInt (by omega)] at this
      omega
    have eF : f_LF_table 0 (nI k1) (nI k2) (nI v) σ = some (.inl (nI u), mput σ 9 (256 * k1 + k2) (nI v)) := by
      unfold f_LF_table f_LF_wantPicture xcase lt
      simp only [wt_0_1, wt_0_2, wt_0_3, wt_0_4, wt_0_5, wt_1_0, wt_1_1, wt_1_2, wt_1_3, wt_1_4, wt_2_0, wl_3, wt_4_0, wl_5, wt_6_0, wl_7, wt_8_0, wl_9, wt_10_0, wt_10_1, wt_10_2, wt_11_0, wl_12, wt_13_0, wl_14, wt_15_0, wl_16, wt_17_0, wl_18, wt_19_0, wl_20, wt_21_0, wt_21_1, wt_21_2, wt_21_3, wt_22_0, wt_22_1, wt_22_2, wt_23_0, wl_24, wt_25_0, wl_26, wt_27_0, wl_28, wt_29_0, wt_30_0, wt_30_1, wt_30_2, wt_30_3, wt_30_4, wt_30_5, wt_31_0, wt_31_1, wt_31_2, wt_31_3, wt_31_4, wt_32_0, wl_33, wt_34_0, wl_35, wt_36_0, wl_37, wt_38_0, wl_39, wt_40_0, wt_40_1, wt_40_2, wt_41_0, wl_42, wt_43_0, wl_44, wt_45_0, wl_46, wt_48_0, wt_48_1, wt_49_0, wt_49_1, wt_49_2, wt_50_0, wl_51, wt_52_0, wl_53, wt_54_0, wl_55, wt_56_6, wt_56_7, wt_56_8, wt_56_13, wt_56_14, wt_56_15, wt_56_16, wt_56_18, wt_56_21, wt_56_22, wt_56_23, wt_56_24, wt_56_25, wt_56_26, wt_56_27, wt_56_44, wt_56_45, wt_56_46, wt_56_47, wt_56_48, wt_56_49, wt_56_50, wt_56_51, wt_56_52, wt_56_53, wl_57, wl_58, wl_59, wl_60, wl_61, wl_62, wl_63, wl_64, wl_65, wl_66, wl_67, wl_68, wl_69, wl_70, wl_71, wl_72, wl_73, wl_74, wl_75, wl_76, wl_77, wl_78, wl_79, wl_80, wl_81, wl_82, s4, hc0, if_false, eN, y1, show ¬ (1 : Int32) = 0 by decide, eS, y2, z1, z2, if_true, eH, ht, eU, eu, un, eW]
    have eR : f_RM_table 56 (nI k1) (nI k2) (nI v) τ = some (nI u, mput (mput (mput τ 56 1 0) 58 k1 1) 59 (256 * k1 + k2) (nI v)) := by
      unfold f_RM_table f_RM_isComponent lt
      simp only [wt_0_1, wt_0_2, wt_0_3, wt_0_4, wt_0_5, wt_1_0, wt_1_1, wt_1_2, wt_1_3, wt_1_4, wt_2_0, wl_3, wt_4_0, wl_5, wt_6_0, wl_7, wt_8_0, wl_9, wt_10_0, wt_10_1, wt_10_2, wt_11_0, wl_12, wt_13_0, wl_14, wt_15_0, wl_16, wt_17_0, wl_18, wt_19_0, wl_20, wt_21_0, wt_21_1, wt_21_2, wt_21_3, wt_22_0, wt_22_1, wt_22_2, wt_23_0, wl_24, wt_25_0, wl_26, wt_27_0, wl_28, wt_29_0, wt_30_0, wt_30_1, wt_30_2, wt_30_3, wt_30_4, wt_30_5, wt_31_0, wt_31_1, wt_31_2, wt_31_3, wt_31_4, wt_32_0, wl_33, wt_34_0, wl_35, wt_36_0, wl_37, wt_38_0, wl_39, wt_40_0, wt_40_1, wt_40_2, wt_41_0, wl_42, wt_43_0, wl_44, wt_45_0, wl_46, wt_48_0, wt_48_1, wt_49_0, wt_49_1, wt_49_2, wt_50_0, wl_51, wt_52_0, wl_53, wt_54_0, wl_55, wt_56_6, wt_56_7, wt_56_8, wt_56_13, wt_56_14, wt_56_15, wt_56_16, wt_56_18, wt_56_21, wt_56_22, wt_56_23, wt_56_24, wt_56_25, wt_56_26, wt_56_27, wt_56_44, wt_56_45, wt_56_46, wt_56_47, wt_56_48, wt_56_49, wt_56_50, wt_56_51, wt_56_52, wt_56_53, wl_57, wl_58, wl_59, wl_60, wl_61, wl_62, wl_63, wl_64, wl_65, wl_66, wl_67, wl_68, wl_69, wl_70, wl_71, wl_72, wl_73, wl_74, wl_75, wl_76, wl_77, wl_78, wl_79, wl_80, wl_81, wl_82, r3, r4, hc0, if_false, eM, y1, show ¬ (1 : Int32) = 0 by decide, eT, y2, e3, mput_app, and_self, if_true, show (0 : Int32) ≤ 0 by decide, inb_nI (show k1 < 4 by omega) (by decide), nI_clamp (show k1 < 2 ^ 31 by omega), Nat.reduceEqDiff, false_and, ht, nz1, nI_256', inb_nI (show 256 * k1 + k2 < 1024 by omega) (by decide), nI_clamp (show 256 * k1 + k2 < 2 ^ 31 by omega), eu]
      rw [table_loop1 (by omega) (by rw [mput_cell (by decide)]; exact ht)]
      rfl
    refine ⟨_, eF, fin_ok rfl eR ?_ ?_ ?_ (by simp [mput_app])⟩
    · intro k hk
      simp only [mput_cell (show ¬ k = 9 by omega)]
    · intro k hk
      simp only [mput_cell (show ¬ k = 59 by omega), mput_cell (show ¬ k = 58 by omega), mput_cell (show ¬ k = 56 by omega)]
    · refine H.pic (fun k hk => ?_) (fun j hj => ?_) (fun k hk => ?_) (w := w) (h := h) (b := b) (c := c) (nn := nn) (rs := rs) (st := st) (rt := rt) ?_
      · simp only [mput_cell (show ¬ k = 9 by omega)]
      · simp [mput_app, show ¬ j = 1 by omega]
      · simp only [mput_cell (show ¬ k = 59 by omega), mput_cell (show ¬ k = 58 by omega), mput_cell (show ¬ k = 56 by omega)]
      · unfold RPic
        simp only [mput_row, mput_cell, Nat.reduceEqDiff, not_false_eq_true]
        refine ⟨⟨s1, s2, s3, s4⟩, by simp [upd, r1, r2, r3, r4], by simpa [upd] using hn, hd, hsam, ?_, ⟨eqn_upd hnum.1, bnd_upd hnum.2 hv⟩, by simpa [upd] using hpre, hk, hs, hby⟩
        intro i hi
        unfold upd
        by_cases e : i = k1
        · subst e
          have : ¬ σ 7 i = 0 := fun z => ht ((htab i hi).mp z)
          simp [this]
        · simp only [e, if_false]
          exact htab i hi
set_option maxRecDepth 100000 in
set_option maxHeartbeats 4000000 in
theorem o_pass : O_pass Inv := by
  intro σ p1 p2 hI
  refine owed_of4 hI (fun τ H => ?_)
  obtain ⟨-, -, ⟨n, w1, w2, w3, w4, w5, -⟩, ⟨m, c1, c2, c3, c4, c5⟩, -⟩ := id H
  have eN : ∀ x : Int32, f_BY_has 17 x σ = inI x n := fun x => by unfold f_BY_has inI; rw [w1]
  have eM : ∀ x : Int32, f_RM_isIn x (0 : Int32) (nI n - (1 : Int32)) τ = inI x n := fun x => isIn0 (by omega)
  rcases inI_cases p1 (c := n) (by omega) with h1 | ⟨k1, hk1, rfl⟩
  · refine ⟨(.inr 2, σ), ?_, fin_thr (n := 2) (k := 1) H rfl ?_ (by decide) (by decide)⟩
    · unfold f_LF_pass
      simp only [wt_0_1, wt_0_2, wt_0_3, wt_0_4, wt_0_5, wt_1_0, wt_1_1, wt_1_2, wt_1_3, wt_1_4, wt_2_0, wl_3, wt_4_0, wl_5, wt_6_0, wl_7, wt_8_0, wl_9, wt_10_0, wt_10_1, wt_10_2, wt_11_0, wl_12, wt_13_0, wl_14, wt_15_0, wl_16, wt_17_0, wl_18, wt_19_0, wl_20, wt_21_0, wt_21_1, wt_21_2, wt_21_3, wt_22_0, wt_22_1, wt_22_2, wt_23_0, wl_24, wt_25_0, wl_26, wt_27_0, wl_28, wt_29_0, wt_30_0, wt_30_1, wt_30_2, wt_30_3, wt_30_4, wt_30_5, wt_31_0, wt_31_1, wt_31_2, wt_31_3, wt_31_4, wt_32_0, wl_33, wt_34_0, wl_35, wt_36_0, wl_37, wt_38_0, wl_39, wt_40_0, wt_40_1, wt_40_2, wt_41_0, wl_42, wt_43_0, wl_44, wt_45_0, wl_46, wt_48_0, wt_48_1, wt_49_0, wt_49_1, wt_49_2, wt_50_0, wl_51, wt_52_0, wl_53, wt_54_0, wl_55, wt_56_6, wt_56_7, wt_56_8, wt_56_13, wt_56_14, wt_56_15, wt_56_16, wt_56_18, wt_56_21, wt_56_22, wt_56_23, wt_56_24, wt_56_25, wt_56_26, wt_56_27, wt_56_44, wt_56_45, wt_56_46, wt_56_47, wt_56_48, wt_56_49, wt_56_50, wt_56_51, wt_56_52, wt_56_53, wl_57, wl_58, wl_59, wl_60, wl_61, wl_62, wl_63, wl_64, wl_65, wl_66, wl_67, wl_68, wl_69, wl_70, wl_71, wl_72, wl_73, wl_74, wl_75, wl_76, wl_77, wl_78, wl_79, wl_80, wl_81, wl_82, eN, h1, if_true]
    · unfold f_RM_pass lt
      simp only [w2, eM, h1, if_true, mput_app, and_self]
      rw [if_neg (by decide)]
  have y1 : inI (nI k1) n = 1 := inI_yes hk1 (by omega)
  by_cases b2 : 0 ≤ p2
  · obtain ⟨q, hq, rfl⟩ := nI_of (Int32.not_lt.mpr b2)
    have e1 : nI n - nI k1 = nI (n - k1) := nI_sub (by omega)
    obtain ⟨g, hg, eg1, eg2⟩ : ∃ g, (g ≤ n - k1) ∧ imin (nI q) (nI (n - k1)) = nI g ∧ (if nI (n - k1) ≤ nI q then nI (n - k1) else nI q) = nI g := by
      unfold imin
      by_cases z : n - k1 ≤ q
      · refine ⟨n - k1, by omega, ?_, by rw [if_pos (nI_le z hq)]⟩
        by_cases z2 : nI (n - k1) < nI q
        · rw [if_pos z2]
        · rw [if_neg z2]
          have : q = n - k1 := by
            by_cases z3 : n - k1 < q
            · exact absurd (nI_lt z3 hq) z2
            · omega
          rw [this]
      · exact ⟨q, by omega, by rw [if_neg]; exact fun z2 => absurd (Int32.le_of_lt z2) (nI_ge (by omega) (by omega)), by rw [if_neg (nI_ge (by omega) (by omega))]⟩
    have e6 : 6000 - nI m = nI (6000 - m) := nI_sub (a := 6000) c3
    have e7 : nI m + nI g = nI (m + g) := nI_add m g
    by_cases hr : g ≤ 6000 - m
    · have l1 : nI g ≤ nI (6000 - m) := nI_le hr (by omega)
      have l2 : nI (m + g) ≤ 6000 := nI_le (b := 6000) (by omega) (by decide)
      have lp : Both (L_LF_pass_73 0 (nI k1) (nI q) (nI g) 9999 0 σ) (L_RM_pass_80 56 (nI k1) (nI q) (nI g) 9999 0 (mput τ 56 1 0)) (fun a b => FrC σ a.2 ∧ FrR τ b.2 ∧ Rel a.2 b.2 ∧ b.2 56 1 = 0) := by
        refine loopB (C := fun f k s => L_LF_pass_73 0 (nI k1) (nI q) (nI g) f (nI k) s) (R := fun f k s => L_RM_pass_80 56 (nI k1) (nI q) (nI g) f (nI k) s) (P := fun k s t => (∀ j, (j < 19 ∨ 21 ≤ j) → s j = σ j) ∧ (∀ j, ¬ j = 1 → ¬ j = 19 → t 56 j = τ 56 j) ∧ t 56 1 = 0 ∧ (∀ j, ¬ j = 56 → ¬ j = 64 → t j = τ j) ∧ RCa s t (m + k)) (hi := g) ?_ ?_ g 9999 9999 0 σ (mput τ 56 1 0) (by omega) (by omega) (by omega) ?_
        · rintro s t ⟨f1, f2, f3, f4, f5⟩ a b
          refine ⟨(nI g, s), (nI g, t), ?_, ?_, fun k hk => f1 k (by omega), fun k hk => f4 k (by omega) (by omega), Rel.came H f1 f2 (fun k h1 h2 => f4 k (by omega) h2) f5, f3⟩
          · show L_LF_pass_73 0 (nI k1) (nI q) (nI g) (a + 1) (nI g) s = _
            rw [L_LF_pass_73, if_pos (nI_le (Nat.le_refl _) (by omega))]
          · show L_RM_pass_80 56 (nI k1) (nI q) (nI g) (b + 1) (nI g) t = _
            rw [L_RM_pass_80, if_pos (nI_le (Nat.le_refl _) (by omega))]
        · rintro k s t hk ⟨f1, f2, f3, f4, f5⟩
          obtain ⟨g1, g2, g3, g4, g5⟩ := id f5
          left
          obtain ⟨v, hv, ev⟩ := w5 (k1 + k) (by omega)
          refine ⟨mput (mput s 20 (m + k) (nI v)) 19 1 (nI (m + k + 1)), mput (mput t 64 (m + k) (nI v)) 56 19 (nI (m + k + 1)), fun a => ?_, fun a => ?_, ?_, ?_, ?_, ?_, ?_⟩
          · show L_LF_pass_73 0 (nI k1) (nI q) (nI g) (a + 1) (nI k) s = _
            rw [L_LF_pass_73]
            unfold lt
            simp only [wt_0_1, wt_0_2, wt_0_3, wt_0_4, wt_0_5, wt_1_0, wt_1_1, wt_1_2, wt_1_3, wt_1_4, wt_2_0, wl_3, wt_4_0, wl_5, wt_6_0, wl_7, wt_8_0, wl_9, wt_10_0, wt_10_1, wt_10_2, wt_11_0, wl_12, wt_13_0, wl_14, wt_15_0, wl_16, wt_17_0, wl_18, wt_19_0, wl_20, wt_21_0, wt_21_1, wt_21_2, wt_21_3, wt_22_0, wt_22_1, wt_22_2, wt_23_0, wl_24, wt_25_0, wl_26, wt_27_0, wl_28, wt_29_0, wt_30_0, wt_30_1, wt_30_2, wt_30_3, wt_30_4, wt_30_5, wt_31_0, wt_31_1, wt_31_2, wt_31_3, wt_31_4, wt_32_0, wl_33, wt_34_0, wl_35, wt_36_0, wl_37, wt_38_0, wl_39, wt_40_0, wt_40_1, wt_40_2, wt_41_0, wl_42, wt_43_0, wl_44, wt_45_0, wl_46, wt_48_0, wt_48_1, wt_49_0, wt_49_1, wt_49_2, wt_50_0, wl_51, wt_52_0, wl_53, wt_54_0, wl_55, wt_56_6, wt_56_7, wt_56_8, wt_56_13, wt_56_14, wt_56_15, wt_56_16, wt_56_18, wt_56_21, wt_56_22, wt_56_23, wt_56_24, wt_56_25, wt_56_26, wt_56_27, wt_56_44, wt_56_45, wt_56_46, wt_56_47, wt_56_48, wt_56_49, wt_56_50, wt_56_51, wt_56_52, wt_56_53, wl_57, wl_58, wl_59, wl_60, wl_61, wl_62, wl_63, wl_64, wl_65, wl_66, wl_67, wl_68, wl_69, wl_70, wl_71, wl_72, wl_73, wl_74, wl_75, wl_76, wl_77, wl_78, wl_79, wl_80, wl_81, wl_82]
            rw [if_neg (nI_ge hk (by omega)), nI_add, nI_1, by_get (k := 17) (a := 18) (m := n) (by decide +kernel) (by decide +kernel) (by rw [f1 17 (by decide), w1]) (by omega) w3, f1 18 (by decide), ev, by_add (k := 19) (a := 20) (by decide +kernel) (by decide +kernel) g1 (by omega) (by decide)]
          · show L_RM_pass_80 56 (nI k1) (nI q) (nI g) (a + 1) (nI k) t = _
            rw [L_RM_pass_80]
            unfold lt
            simp only [wt_0_1, wt_0_2, wt_0_3, wt_0_4, wt_0_5, wt_1_0, wt_1_1, wt_1_2, wt_1_3, wt_1_4, wt_2_0, wl_3, wt_4_0, wl_5, wt_6_0, wl_7, wt_8_0, wl_9, wt_10_0, wt_10_1, wt_10_2, wt_11_0, wl_12, wt_13_0, wl_14, wt_15_0, wl_16, wt_17_0, wl_18, wt_19_0, wl_20, wt_21_0, wt_21_1, wt_21_2, wt_21_3, wt_22_0, wt_22_1, wt_22_2, wt_23_0, wl_24, wt_25_0, wl_26, wt_27_0, wl_28, wt_29_0, wt_30_0, wt_30_1, wt_30_2, wt_30_3, wt_30_4, wt_30_5, wt_31_0, wt_31_1, wt_31_2, wt_31_3, wt_31_4, wt_32_0, wl_33, wt_34_0, wl_35, wt_36_0, wl_37, wt_38_0, wl_39, wt_40_0, wt_40_1, wt_40_2, wt_41_0, wl_42, wt_43_0, wl_44, wt_45_0, wl_46, wt_48_0, wt_48_1, wt_49_0, wt_49_1, wt_49_2, wt_50_0, wl_51, wt_52_0, wl_53, wt_54_0, wl_55, wt_56_6, wt_56_7, wt_56_8, wt_56_13, wt_56_14, wt_56_15, wt_56_16, wt_56_18, wt_56_21, wt_56_22, wt_56_23, wt_56_24, wt_56_25, wt_56_26, wt_56_27, wt_56_44, wt_56_45, wt_56_46, wt_56_47, wt_56_48, wt_56_49, wt_56_50, wt_56_51, wt_56_52, wt_56_53, wl_57, wl_58, wl_59, wl_60, wl_61, wl_62, wl_63, wl_64, wl_65, wl_66, wl_67, wl_68, wl_69, wl_70, wl_71, wl_72, wl_73, wl_74, wl_75, wl_76, wl_77, wl_78, wl_79, wl_80, wl_81, wl_82, nI_add, g2, mput_app, Nat.reduceEqDiff, false_and, if_false]
            rw [if_neg (nI_ge hk (by omega)), nI_1, nI_1, if_pos (inb_nI (by omega) (by decide)), if_pos (inb_nI (by omega) (by decide)), nI_clamp (by omega), nI_clamp (by omega), f4 63 (by decide) (by decide), ← w4 _ (by omega), ev]
          · intro j hj
            rw [mput_cell (by omega), mput_cell (by omega), f1 j hj]
          · intro j h1 h2
            rw [mput_app, if_neg (by simp [h2]), mput_cell (by decide), f2 j h1 h2]
          · rw [mput_app, if_neg (by decide), mput_cell (by decide), f3]
          · intro j h1 h2
            rw [mput_cell h1, mput_cell h2, f4 j h1 h2]
          · unfold RCa
            simp only [mput_row, mput_cell, Nat.reduceEqDiff, not_false_eq_true]
            exact ⟨by simp [upd]; rfl, by simp [upd]; rfl, by omega, eqn_upd g4, bnd_upd g5 hv⟩
        · refine ⟨fun _ _ => rfl, fun j h1 h2 => by rw [mput_app, if_neg (by simp [h1])], by simp [mput_app], fun j h1 h2 => mput_cell h1, ?_⟩
          unfold RCa
          simp only [mput_row, mput_cell, Nat.reduceEqDiff, not_false_eq_true]
          exact ⟨c1, by simpa [upd] using c2, c3, c4, c5⟩
      obtain ⟨a, b, ea, eb, f1, f2, f3, f4⟩ := lp
      refine ⟨(.inl (nI g), a.2), ?_, fin_ok rfl (τ1 := b.2) ?_ f1 f2 f3 f4⟩
      · unfold f_LF_pass f_BY_size f_BY_room lt
        simp only [wt_0_1, wt_0_2, wt_0_3, wt_0_4, wt_0_5, wt_1_0, wt_1_1, wt_1_2, wt_1_3, wt_1_4, wt_2_0, wl_3, wt_4_0, wl_5, wt_6_0, wl_7, wt_8_0, wl_9, wt_10_0, wt_10_1, wt_10_2, wt_11_0, wl_12, wt_13_0, wl_14, wt_15_0, wl_16, wt_17_0, wl_18, wt_19_0, wl_20, wt_21_0, wt_21_1, wt_21_2, wt_21_3, wt_22_0, wt_22_1, wt_22_2, wt_23_0, wl_24, wt_25_0, wl_26, wt_27_0, wl_28, wt_29_0, wt_30_0, wt_30_1, wt_30_2, wt_30_3, wt_30_4, wt_30_5, wt_31_0, wt_31_1, wt_31_2, wt_31_3, wt_31_4, wt_32_0, wl_33, wt_34_0, wl_35, wt_36_0, wl_37, wt_38_0, wl_39, wt_40_0, wt_40_1, wt_40_2, wt_41_0, wl_42, wt_43_0, wl_44, wt_45_0, wl_46, wt_48_0, wt_48_1, wt_49_0, wt_49_1, wt_49_2, wt_50_0, wl_51, wt_52_0, wl_53, wt_54_0, wl_55, wt_56_6, wt_56_7, wt_56_8, wt_56_13, wt_56_14, wt_56_15, wt_56_16, wt_56_18, wt_56_21, wt_56_22, wt_56_23, wt_56_24, wt_56_25, wt_56_26, wt_56_27, wt_56_44, wt_56_45, wt_56_46, wt_56_47, wt_56_48, wt_56_49, wt_56_50, wt_56_51, wt_56_52, wt_56_53, wl_57, wl_58, wl_59, wl_60, wl_61, wl_62, wl_63, wl_64, wl_65, wl_66, wl_67, wl_68, wl_69, wl_70, wl_71, wl_72, wl_73, wl_74, wl_75, wl_76, wl_77, wl_78, wl_79, wl_80, wl_81, wl_82, eN, y1, show ¬ (1 : Int32) = 0 by decide, if_false, b2, if_true, w1, c1, e1, eg1, show nI 6000 = (6000 : Int32) from rfl, e6, l1, ea]
        rfl
      · unfold f_RM_pass lt
        simp only [w2, c2, e1, eg2, eM, y1, show ¬ (1 : Int32) = 0 by decide, if_false, b2, if_true, e7, l2, mput_app, and_self, show (0 : Int32) ≤ 0 by decide, eb]
        rfl
    · have l1 : ¬ nI g ≤ nI (6000 - m) := nI_ge (by omega) (by omega)
      have l2 : ¬ nI (m + g) ≤ 6000 := nI_ge (a := 6000) (by omega) (by omega)
      refine ⟨(.inr 4, σ), ?_, fin_thr (n := 4) (k := 3) H rfl ?_ (by decide) (by decide)⟩
      · unfold f_LF_pass f_BY_size f_BY_room lt
        simp only [wt_0_1, wt_0_2, wt_0_3, wt_0_4, wt_0_5, wt_1_0, wt_1_1, wt_1_2, wt_1_3, wt_1_4, wt_2_0, wl_3, wt_4_0, wl_5, wt_6_0, wl_7, wt_8_0, wl_9, wt_10_0, wt_10_1, wt_10_2, wt_11_0, wl_12, wt_13_0, wl_14, wt_15_0, wl_16, wt_17_0, wl_18, wt_19_0, wl_20, wt_21_0, wt_21_1, wt_21_2, wt_21_3, wt_22_0, wt_22_1, wt_22_2, wt_23_0, wl_24, wt_25_0, wl_26, wt_27_0, wl_28, wt_29_0, wt_30_0, wt_30_1, wt_30_2, wt_30_3, wt_30_4, wt_30_5, wt_31_0, wt_31_1, wt_31_2, wt_31_3, wt_31_4, wt_32_0, wl_33, wt_34_0, wl_35, wt_36_0, wl_37, wt_38_0, wl_39, wt_40_0, wt_40_1, wt_40_2, wt_41_0, wl_42, wt_43_0, wl_44, wt_45_0, wl_46, wt_48_0, wt_48_1, wt_49_0, wt_49_1, wt_49_2, wt_50_0, wl_51, wt_52_0, wl_53, wt_54_0, wl_55, wt_56_6, wt_56_7, wt_56_8, wt_56_13, wt_56_14, wt_56_15, wt_56_16, wt_56_18, wt_56_21, wt_56_22, wt_56_23, wt_56_24, wt_56_25, wt_56_26, wt_56_27, wt_56_44, wt_56_45, wt_56_46, wt_56_47, wt_56_48, wt_56_49, wt_56_50, wt_56_51, wt_56_52, wt_56_53, wl_57, wl_58, wl_59, wl_60, wl_61, wl_62, wl_63, wl_64, wl_65, wl_66, wl_67, wl_68, wl_69, wl_70, wl_71, wl_72, wl_73, wl_74, wl_75, wl_76, wl_77, wl_78, wl_79, wl_80, wl_81, wl_82, eN, y1, show ¬ (1 : Int32) = 0 by decide, if_false, b2, if_true, w1, c1, e1, eg1, show nI 6000 = (6000 : Int32) from rfl, e6, l1]
      · unfold f_RM_pass lt
        simp only [w2, c2, e1, eg2, eM, y1, show ¬ (1 : Int32) = 0 by decide, if_false, b2, if_true, e7, l2, mput_app, and_self]
        rw [if_neg (by decide)]
  · refine ⟨(.inr 3, σ), ?_, fin_thr (n := 3) (k := 2) H rfl ?_ (by decide) (by decide)⟩
    · unfold f_LF_pass
      simp only [wt_0_1, wt_0_2, wt_0_3, wt_0_4, wt_0_5, wt_1_0, wt_1_1, wt_1_2, wt_1_3, wt_1_4, wt_2_0, wl_3, wt_4_0, wl_5, wt_6_0, wl_7, wt_8_0, wl_9, wt_10_0, wt_10_1, wt_10_2, wt_11_0, wl_12, wt_13_0, wl_14, wt_15_0, wl_16, wt_17_0, wl_18, wt_19_0, wl_20, wt_21_0, wt_21_1, wt_21_2, wt_21_3, wt_22_0, wt_22_1, wt_22_2, wt_23_0, wl_24, wt_25_0, wl_26, wt_27_0, wl_28, wt_29_0, wt_30_0, wt_30_1, wt_30_2, wt_30_3, wt_30_4, wt_30_5, wt_31_0, wt_31_1, wt_31_2, wt_31_3, wt_31_4, wt_32_0, wl_33, wt_34_0, wl_35, wt_36_0, wl_37, wt_38_0, wl_39, wt_40_0, wt_40_1, wt_40_2, wt_41_0, wl_42, wt_43_0, wl_44, wt_45_0, wl_46, wt_48_0, wt_48_1, wt_49_0, wt_49_1, wt_49_2, wt_50_0, wl_51, wt_52_0, wl_53, wt_54_0, wl_55, wt_56_6, wt_56_7, wt_56_8, wt_56_13, wt_56_14, wt_56_15, wt_56_16, wt_56_18, wt_56_21, wt_56_22, wt_56_23, wt_56_24, wt_56_25, wt_56_26, wt_56_27, wt_56_44, wt_56_45, wt_56_46, wt_56_47, wt_56_48, wt_56_49, wt_56_50, wt_56_51, wt_56_52, wt_56_53, wl_57, wl_58, wl_59, wl_60, wl_61, wl_62, wl_63, wl_64, wl_65, wl_66, wl_67, wl_68, wl_69, wl_70, wl_71, wl_72, wl_73, wl_74, wl_75, wl_76, wl_77, wl_78, wl_79, wl_80, wl_81, wl_82, eN, y1, show ¬ (1 : Int32) = 0 by decide, if_false, b2]
    · unfold f_RM_pass lt
      simp only [w2, eM, y1, show ¬ (1 : Int32) = 0 by decide, if_false, b2, if_true, mput_app, and_self]
      rw [if_neg (by decide)]
