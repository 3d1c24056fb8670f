/-! picture, table, pass -/
set_option maxRecDepth 100000 in
set_option maxHeartbeats 4000000 in
theorem isIn_1 {x lo hi : Int32} {τ : Mem} : f_RM_isIn x lo hi τ = if x < lo then 0 else if hi < x then 0 else 1 := rfl
set_option maxRecDepth 100000 in
set_option maxHeartbeats 4000000 in
theorem i32_lohi {x lo hi : Int32} {n : Nat} (e : hi = nI n) (hn : n < 2 ^ 31) (h0 : 0 ≤ lo) (h1 : ¬ x < lo) (h2 : ¬ hi < x) : ∃ v : Nat, v ≤ n ∧ x = nI v := by
  subst e
  exact i32_of (fun z => h1 (Int32.lt_of_lt_of_le z h0)) (Int32.not_lt.mp h2) hn
set_option maxRecDepth 100000 in
set_option maxHeartbeats 4000000 in
theorem nI_ge1 {v k : Nat} (hv : v < 2 ^ 31) (hk : k < 2 ^ 31) (h : ¬ nI v < nI k) : k ≤ v := by
  by_cases z : k ≤ v
  · exact z
  · exact absurd (nI_lt (by omega) (by omega)) h
set_option maxRecDepth 100000 in
set_option maxHeartbeats 4000000 in
theorem o_picture : O_picture Inv := by
  intro σ p1 p2 p3 p4 hI
  refine owed_of4 hI (fun τ H => ?_)
  have bad : f_PI_mayMeasure p1 p2 p3 p4 σ = 0 → f_RM_picture 56 p1 p2 p3 p4 τ = some (0, mput τ 56 1 1) := by
    intro hb
    have e0 : mput (mput τ 56 1 0) 56 1 1 = mput τ 56 1 1 := by
      funext k i
      simp only [mput_app]
      by_cases h : k = 56 ∧ i = 1 <;> simp [h]
    unfold f_RM_picture f_RM_fails lt
    simp only [isIn_1, e0]
    unfold f_PI_mayMeasure at hb
    by_cases c1 : p1 < 1
    · simp [c1]
    by_cases c2 : 12 < p1
    · simp [c2]
    by_cases c3 : p2 < 1
    · simp [c1, c2, c3]
    by_cases c4 : 12 < p2
    · simp [c1, c2, c4]
    by_cases c5 : p3 < 2
    · simp [c1, c2, c3, c4, c5]
    by_cases c6 : 8 < p3
    · simp [c1, c2, c3, c4, c6]
    by_cases c7 : p4 < 1
    · simp [c1, c2, c3, c4, c5, c6, c7]
    by_cases c8 : 4 < p4
    · simp [c1, c2, c3, c4, c5, c6, c8]
    simp [c1, c2, c3, c4, c5, c6, c7, c8] at hb
  by_cases hm : f_PI_mayMeasure p1 p2 p3 p4 σ = 0
  · refine ⟨(.inr 3, σ), ?_, fin_thr (n := 3) (k := 1) H rfl (bad hm) (by decide) (by decide)⟩
    unfold f_LF_picture
    rw [if_pos hm]
  obtain ⟨c1, c2, c3, c4, c5, c6, c7, c8⟩ : ¬ p1 < 1 ∧ ¬ 12 < p1 ∧ ¬ p2 < 1 ∧ ¬ 12 < p2 ∧ ¬ p3 < 2 ∧ ¬ 8 < p3 ∧ ¬ p4 < 1 ∧ ¬ 4 < p4 := by
    unfold f_PI_mayMeasure at hm
    by_cases c1 : p1 < 1
    · simp [c1] at hm
    by_cases c2 : 12 < p1
    · simp [c2] at hm
    by_cases c3 : p2 < 1
    · simp [c3] at hm
    by_cases c4 : 12 < p2
    · simp [c4] at hm
    by_cases c5 : p3 < 2
    · simp [c5] at hm
    by_cases c6 : 8 < p3
    · simp [c6] at hm
    by_cases c7 : p4 < 1
    · simp [c7] at hm
    by_cases c8 : 4 < p4
    · simp [c8] at hm
    exact ⟨c1, c2, c3, c4, c5, c6, c7, c8⟩
  have eR : f_RM_picture 56 p1 p2 p3 p4 τ = some ((p1 * p2) * p4, mput (mput (mput (mput (fillr (fillr (mput (mput (mput (mput (mput τ 56 1 0) 56 2 p1) 56 3 p2) 56 4 p3) 56 5 p4) 57 576 0) 58 4 (nz 0)) 56 9 64) 56 10 4) 56 11 0) 56 12 0) := by
    unfold f_RM_picture lt
    simp only [isIn_1, c1, c2, c3, c4, c5, c6, c7, c8, if_false, show ¬ (1 : Int32) = 0 by decide]
    rw [fill_loop (L := L_RM_picture_75 56 p1 p2 p3 p4) (hi := 576) (N := 576) (A := 57) (v := 0) (fun n a s => by rw [L_RM_picture_75]; unfold lt; simp only [wt_0_1, wt_0_2, wt_0_3, wt_0_4, wt_0_5, wt_1_0, wt_1_1, wt_1_2, wt_1_3, wt_1_4, wt_2_0, wl_3, wt_4_0, wl_5, wt_6_0, wl_7, wt_8_0, wl_9, wt_10_0, wt_10_1, wt_10_2, wt_11_0, wl_12, wt_13_0, wl_14, wt_15_0, wl_16, wt_17_0, wl_18, wt_19_0, wl_20, wt_21_0, wt_21_1, wt_21_2, wt_21_3, wt_22_0, wt_22_1, wt_22_2, wt_23_0, wl_24, wt_25_0, wl_26, wt_27_0, wl_28, wt_29_0, wt_30_0, wt_30_1, wt_30_2, wt_30_3, wt_30_4, wt_30_5, wt_31_0, wt_31_1, wt_31_2, wt_31_3, wt_31_4, wt_32_0, wl_33, wt_34_0, wl_35, wt_36_0, wl_37, wt_38_0, wl_39, wt_40_0, wt_40_1, wt_40_2, wt_41_0, wl_42, wt_43_0, wl_44, wt_45_0, wl_46, wt_48_0, wt_48_1, wt_49_0, wt_49_1, wt_49_2, wt_50_0, wl_51, wt_52_0, wl_53, wt_54_0, wl_55, wt_56_6, wt_56_7, wt_56_8, wt_56_13, wt_56_14, wt_56_15, wt_56_16, wt_56_18, wt_56_21, wt_56_22, wt_56_23, wt_56_24, wt_56_25, wt_56_26, wt_56_27, wt_56_44, wt_56_45, wt_56_46, wt_56_47, wt_56_48, wt_56_49, wt_56_50, wt_56_51, wt_56_52, wt_56_53, wl_57, wl_58, wl_59, wl_60, wl_61, wl_62, wl_63, wl_64, wl_65, wl_66, wl_67, wl_68, wl_69, wl_70, wl_71, wl_72, wl_73, wl_74, wl_75, wl_76, wl_77, wl_78, wl_79, wl_80, wl_81, wl_82]; rfl) (by omega) (by omega)]
    simp only [Option.bind_some]
    rw [fill_loop (L := L_RM_picture_100 56 p1 p2 p3 p4) (hi := 4) (N := 4) (A := 58) (v := nz 0) (fun n a s => by rw [L_RM_picture_100]; unfold lt; simp only [wt_0_1, wt_0_2, wt_0_3, wt_0_4, wt_0_5, wt_1_0, wt_1_1, wt_1_2, wt_1_3, wt_1_4, wt_2_0, wl_3, wt_4_0, wl_5, wt_6_0, wl_7, wt_8_0, wl_9, wt_10_0, wt_10_1, wt_10_2, wt_11_0, wl_12, wt_13_0, wl_14, wt_15_0, wl_16, wt_17_0, wl_18, wt_19_0, wl_20, wt_21_0, wt_21_1, wt_21_2, wt_21_3, wt_22_0, wt_22_1, wt_22_2, wt_23_0, wl_24, wt_25_0, wl_26, wt_27_0, wl_28, wt_29_0, wt_30_0, wt_30_1, wt_30_2, wt_30_3, wt_30_4, wt_30_5, wt_31_0, wt_31_1, wt_31_2, wt_31_3, wt_31_4, wt_32_0, wl_33, wt_34_0, wl_35, wt_36_0, wl_37, wt_38_0, wl_39, wt_40_0, wt_40_1, wt_40_2, wt_41_0, wl_42, wt_43_0, wl_44, wt_45_0, wl_46, wt_48_0, wt_48_1, wt_49_0, wt_49_1, wt_49_2, wt_50_0, wl_51, wt_52_0, wl_53, wt_54_0, wl_55, wt_56_6, wt_56_7, wt_56_8, wt_56_13, wt_56_14, wt_56_15, wt_56_16, wt_56_18, wt_56_21, wt_56_22, wt_56_23, wt_56_24, wt_56_25, wt_56_26, wt_56_27, wt_56_44, wt_56_45, wt_56_46, wt_56_47, wt_56_48, wt_56_49, wt_56_50, wt_56_51, wt_56_52, wt_56_53, wl_57, wl_58, wl_59, wl_60, wl_61, wl_62, wl_63, wl_64, wl_65, wl_66, wl_67, wl_68, wl_69, wl_70, wl_71, wl_72, wl_73, wl_74, wl_75, wl_76, wl_77, wl_78, wl_79, wl_80, wl_81, wl_82]; rfl) (by omega) (by omega)]
    rfl
  have eF : f_LF_picture 0 p1 p2 p3 p4 σ = some (.inl ((p1 * p2) * p4), mput (mput (mput (mput (mput (mput (mput (mput (fillr (fillr (mput (mput (mput (mput σ 1 5 0) 1 6 0) 1 7 0) 1 8 0) 3 576 0) 7 4 0) 10 3 0) 5 0 64) 5 1 4) 5 2 0) 1 5 p1) 1 6 p2) 1 7 p3) 1 8 p4) := by
    unfold f_LF_picture f_PI_clear f_PI_measure f_NO_clear lt
    rw [if_neg hm]
    simp only [wt_0_1, wt_0_2, wt_0_3, wt_0_4, wt_0_5, wt_1_0, wt_1_1, wt_1_2, wt_1_3, wt_1_4, wt_2_0, wl_3, wt_4_0, wl_5, wt_6_0, wl_7, wt_8_0, wl_9, wt_10_0, wt_10_1, wt_10_2, wt_11_0, wl_12, wt_13_0, wl_14, wt_15_0, wl_16, wt_17_0, wl_18, wt_19_0, wl_20, wt_21_0, wt_21_1, wt_21_2, wt_21_3, wt_22_0, wt_22_1, wt_22_2, wt_23_0, wl_24, wt_25_0, wl_26, wt_27_0, wl_28, wt_29_0, wt_30_0, wt_30_1, wt_30_2, wt_30_3, wt_30_4, wt_30_5, wt_31_0, wt_31_1, wt_31_2, wt_31_3, wt_31_4, wt_32_0, wl_33, wt_34_0, wl_35, wt_36_0, wl_37, wt_38_0, wl_39, wt_40_0, wt_40_1, wt_40_2, wt_41_0, wl_42, wt_43_0, wl_44, wt_45_0, wl_46, wt_48_0, wt_48_1, wt_49_0, wt_49_1, wt_49_2, wt_50_0, wl_51, wt_52_0, wl_53, wt_54_0, wl_55, wt_56_6, wt_56_7, wt_56_8, wt_56_13, wt_56_14, wt_56_15, wt_56_16, wt_56_18, wt_56_21, wt_56_22, wt_56_23, wt_56_24, wt_56_25, wt_56_26, wt_56_27, wt_56_44, wt_56_45, wt_56_46, wt_56_47, wt_56_48, wt_56_49, wt_56_50, wt_56_51, wt_56_52, wt_56_53, wl_57, wl_58, wl_59, wl_60, wl_61, wl_62, wl_63, wl_64, wl_65, wl_66, wl_67, wl_68, wl_69, wl_70, wl_71, wl_72, wl_73, wl_74, wl_75, wl_76, wl_77, wl_78, wl_79, wl_80, wl_81, wl_82]
    rw [ro_fill (k := 2) (a := 3) (n := 576) (by decide +kernel) (by decide +kernel) (by decide)]
    simp only [Option.bind_some]
    rw [ro_fill (k := 6) (a := 7) (n := 4) (by decide +kernel) (by decide +kernel) (by decide)]
    simp only [Option.bind_some]
    have e0 : ∀ v s, f_RO_set 4 (0 : Int32) v s = mput s 5 0 v := fun v s => ro_set (k := 4) (a := 5) (n := 3) (i := 0) (by decide +kernel) (by decide +kernel) (by decide) (by decide)
    have e1 : ∀ v s, f_RO_set 4 (1 : Int32) v s = mput s 5 1 v := fun v s => ro_set (k := 4) (a := 5) (n := 3) (i := 1) (by decide +kernel) (by decide +kernel) (by decide) (by decide)
    have e2 : ∀ v s, f_RO_set 4 (2 : Int32) v s = mput s 5 2 v := fun v s => ro_set (k := 4) (a := 5) (n := 3) (i := 2) (by decide +kernel) (by decide +kernel) (by decide) (by decide)
    rw [e0, e1, e2]
  obtain ⟨w, hw, rfl⟩ := i32_lohi (n := 12) rfl (by decide) (by decide) c1 c2
  obtain ⟨h, hh, rfl⟩ := i32_lohi (n := 12) rfl (by decide) (by decide) c3 c4
  obtain ⟨b, hb, rfl⟩ := i32_lohi (n := 8) rfl (by decide) (by decide) c5 c6
  obtain ⟨c, hc, rfl⟩ := i32_lohi (n := 4) rfl (by decide) (by decide) c7 c8
  have d1 := nI_ge1 (k := 1) (by omega) (by decide) c1
  have d3 := nI_ge1 (k := 1) (by omega) (by decide) c3
  have d5 := nI_ge1 (k := 2) (by omega) (by decide) c5
  have d7 := nI_ge1 (k := 1) (by omega) (by decide) c7
  obtain ⟨-, ⟨w0, h0, b0, cc0, nn, rs, st, rt, hPic⟩, -, -, -⟩ := id H
  obtain ⟨-, -, -, -, hsam, htab, hnum, hpre, hk, hs, hby⟩ := hPic
  have nz0 : nz 0 = 0 := by decide
  refine ⟨_, eF, fin_ok rfl eR ?_ ?_ ?_ (by simp [mput_app, fillr])⟩
  · intro k hk
    simp only [mput_cell (show ¬ k = 1 by omega), mput_cell (show ¬ k = 5 by omega), mput_cell (show ¬ k = 10 by omega), fillr_cell (show ¬ k = 3 by omega), fillr_cell (show ¬ k = 7 by omega)]
  · intro k hk
    simp only [mput_cell (show ¬ k = 56 by omega), fillr_cell (show ¬ k = 57 by omega), fillr_cell (show ¬ k = 58 by omega)]
  · refine H.pic (fun k hk => ?_) (fun j hj => ?_) (fun k hk => ?_) (w := w) (h := h) (b := b) (c := c) (nn := 0) (rs := 64) (st := 4) (rt := 0) ?_
    · simp only [mput_cell (show ¬ k = 1 by omega), mput_cell (show ¬ k = 5 by omega), mput_cell (show ¬ k = 10 by omega), fillr_cell (show ¬ k = 3 by omega), fillr_cell (show ¬ k = 7 by omega)]
    · simp [mput_app, fillr, show ¬ j = 1 by omega, show ¬ j = 2 by omega, show ¬ j = 3 by omega, show ¬ j = 4 by omega, show ¬ j = 5 by omega, show ¬ j = 9 by omega, show ¬ j = 10 by omega, show ¬ j = 11 by omega, show ¬ j = 12 by omega]
    · simp only [mput_cell (show ¬ k = 56 by omega), fillr_cell (show ¬ k = 57 by omega), fillr_cell (show ¬ k = 58 by omega)]
    · unfold RPic
      simp only [mput_row, mput_cell, fillr_row, fillr_cell, Nat.reduceEqDiff, not_false_eq_true, nz0]
      refine ⟨by simp [upd], by simp [upd], by simp [upd]; rfl, by omega, ⟨?_, ?_⟩, ?_, hnum, by simp [upd]; decide, hk, hs, hby⟩
      · intro i hi
        simp [hi]
      · intro i hi
        exact ⟨0, by omega, by simp [hi]; rfl⟩
      · intro i hi
        simp [hi]
