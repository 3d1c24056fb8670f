set_option maxRecDepth 100000 in
set_option maxHeartbeats 4000000 in
theorem o_note : O_note Inv := by
  intro σ p1 hI
  refine owed_of2 hI (fun τ H => ?_)
  obtain ⟨⟨t, hT⟩, ⟨w, h, b, c, nn, rs, st, rt, hPic⟩, ⟨n, hW⟩, ⟨m, hC⟩, hR⟩ := id H
  obtain ⟨⟨s1, s2, s3, s4⟩, ⟨r1, r2, r3, r4⟩, ⟨n1, n2, n3, n4⟩, hd, hsam, htab, hnum, hpre, hk, hs, hb⟩ := id hPic
  by_cases hc : c = 0
  · subst hc
    refine fin_thr (n := 1) (k := 1) H ?_ ?_ (by decide) (by decide)
    · unfold f_LF_note f_LF_wantPicture xcase
      simp only [wt_0_1, wt_0_2, wt_0_3, wt_0_4, wt_0_5, wt_1_0, wt_1_1, wt_1_2, wt_1_3, wt_1_4, wt_2_0, wl_3, wt_4_0, wl_5, wt_6_0, wl_7, wt_8_0, wl_9, wt_10_0, wt_10_1, wt_10_2, wt_11_0, wl_12, wt_13_0, wl_14, wt_15_0, wl_16, wt_17_0, wl_18, wt_19_0, wl_20, wt_21_0, wt_21_1, wt_21_2, wt_21_3, wt_22_0, wt_22_1, wt_22_2, wt_23_0, wl_24, wt_25_0, wl_26, wt_27_0, wl_28, wt_29_0, wt_30_0, wt_30_1, wt_30_2, wt_30_3, wt_30_4, wt_30_5, wt_31_0, wt_31_1, wt_31_2, wt_31_3, wt_31_4, wt_32_0, wl_33, wt_34_0, wl_35, wt_36_0, wl_37, wt_38_0, wl_39, wt_40_0, wt_40_1, wt_40_2, wt_41_0, wl_42, wt_43_0, wl_44, wt_45_0, wl_46, wt_48_0, wt_48_1, wt_49_0, wt_49_1, wt_49_2, wt_50_0, wl_51, wt_52_0, wl_53, wt_54_0, wl_55, wt_56_6, wt_56_7, wt_56_8, wt_56_13, wt_56_14, wt_56_15, wt_56_16, wt_56_18, wt_56_21, wt_56_22, wt_56_23, wt_56_24, wt_56_25, wt_56_26, wt_56_27, wt_56_44, wt_56_45, wt_56_46, wt_56_47, wt_56_48, wt_56_49, wt_56_50, wt_56_51, wt_56_52, wt_56_53, wl_57, wl_58, wl_59, wl_60, wl_61, wl_62, wl_63, wl_64, wl_65, wl_66, wl_67, wl_68, wl_69, wl_70, wl_71, wl_72, wl_73, wl_74, wl_75, wl_76, wl_77, wl_78, wl_79, wl_80, wl_81, wl_82, s4, show nI 0 = 0 from rfl, if_true]
    · unfold f_RM_note lt
      simp only [r4, show nI 0 = 0 from rfl, if_true, mput_app, and_self]
      rw [if_neg (by decide)]
  have hc0 : ¬ nI c = 0 := nI_c0 hc (by omega)
  rcases inI_cases p1 (c := 17) (by decide) with h1 | ⟨k1, hk1, rfl⟩
  · refine fin_thr (n := 3) (k := 2) H ?_ ?_ (by decide) (by decide)
    · unfold f_LF_note f_LF_wantPicture xcase
      simp only [wt_0_1, wt_0_2, wt_0_3, wt_0_4, wt_0_5, wt_1_0, wt_1_1, wt_1_2, wt_1_3, wt_1_4, wt_2_0, wl_3, wt_4_0, wl_5, wt_6_0, wl_7, wt_8_0, wl_9, wt_10_0, wt_10_1, wt_10_2, wt_11_0, wl_12, wt_13_0, wl_14, wt_15_0, wl_16, wt_17_0, wl_18, wt_19_0, wl_20, wt_21_0, wt_21_1, wt_21_2, wt_21_3, wt_22_0, wt_22_1, wt_22_2, wt_23_0, wl_24, wt_25_0, wl_26, wt_27_0, wl_28, wt_29_0, wt_30_0, wt_30_1, wt_30_2, wt_30_3, wt_30_4, wt_30_5, wt_31_0, wt_31_1, wt_31_2, wt_31_3, wt_31_4, wt_32_0, wl_33, wt_34_0, wl_35, wt_36_0, wl_37, wt_38_0, wl_39, wt_40_0, wt_40_1, wt_40_2, wt_41_0, wl_42, wt_43_0, wl_44, wt_45_0, wl_46, wt_48_0, wt_48_1, wt_49_0, wt_49_1, wt_49_2, wt_50_0, wl_51, wt_52_0, wl_53, wt_54_0, wl_55, wt_56_6, wt_56_7, wt_56_8, wt_56_13, wt_56_14, wt_56_15, wt_56_16, wt_56_18, wt_56_21, wt_56_22, wt_56_23, wt_56_24, wt_56_25, wt_56_26, wt_56_27, wt_56_44, wt_56_45, wt_56_46, wt_56_47, wt_56_48, wt_56_49, wt_56_50, wt_56_51, wt_56_52, wt_56_53, wl_57, wl_58, wl_59, wl_60, wl_61, wl_62, wl_63, wl_64, wl_65, wl_66, wl_67, wl_68, wl_69, wl_70, wl_71, wl_72, wl_73, wl_74, wl_75, wl_76, wl_77, wl_78, wl_79, wl_80, wl_81, wl_82, s4, hc0, if_false]
      by_cases a : p1 < 0
      · simp only [a, if_true]
      · have a2 : ¬ p1 ≤ 16 := by
          unfold inI at h1
          simp only [a, if_false] at h1
          intro z
          have a3 : ¬ nI 17 ≤ p1 := by
            show ¬ (17 : Int32) ≤ p1
            (simp only [Int32.lt_iff_toInt_lt, Int32.le_iff_toInt_le, ← Int32.toInt_inj, Int32.toInt_add, Int32.toInt_sub, Int32.toInt_mul, Int32.toInt_neg, Int.bmod_def] at *; simp at *; omega)
          simp [a3] at h1
        simp only [a, a2, if_false]
    · unfold f_RM_note lt
      have e : f_RM_isIn p1 (0 : Int32) (16 : Int32) τ = 0 := by
        rw [show (16 : Int32) = nI 16 from rfl, isInN (by decide)]
        exact h1
      simp only [r4, hc0, e, if_false, if_true, mput_app, and_self]
      rw [if_neg (by decide)]
  have e16 : f_RM_isIn (nI k1) (0 : Int32) (16 : Int32) τ = 1 := by
    rw [show (16 : Int32) = nI 16 from rfl, isInN (by decide)]
    exact inI_yes hk1 (by decide)
  have a1 : ¬ nI k1 < 0 := nI_pos (by omega)
  have a2 : nI k1 ≤ 16 := nI_le (b := 16) (by omega) (by decide)
  by_cases h6 : nn = 6
  · subst h6
    refine fin_thr (n := 4) (k := 3) H ?_ ?_ (by decide) (by decide)
    · unfold f_LF_note f_LF_wantPicture f_NO_full xcase
      simp only [wt_0_1, wt_0_2, wt_0_3, wt_0_4, wt_0_5, wt_1_0, wt_1_1, wt_1_2, wt_1_3, wt_1_4, wt_2_0, wl_3, wt_4_0, wl_5, wt_6_0, wl_7, wt_8_0, wl_9, wt_10_0, wt_10_1, wt_10_2, wt_11_0, wl_12, wt_13_0, wl_14, wt_15_0, wl_16, wt_17_0, wl_18, wt_19_0, wl_20, wt_21_0, wt_21_1, wt_21_2, wt_21_3, wt_22_0, wt_22_1, wt_22_2, wt_23_0, wl_24, wt_25_0, wl_26, wt_27_0, wl_28, wt_29_0, wt_30_0, wt_30_1, wt_30_2, wt_30_3, wt_30_4, wt_30_5, wt_31_0, wt_31_1, wt_31_2, wt_31_3, wt_31_4, wt_32_0, wl_33, wt_34_0, wl_35, wt_36_0, wl_37, wt_38_0, wl_39, wt_40_0, wt_40_1, wt_40_2, wt_41_0, wl_42, wt_43_0, wl_44, wt_45_0, wl_46, wt_48_0, wt_48_1, wt_49_0, wt_49_1, wt_49_2, wt_50_0, wl_51, wt_52_0, wl_53, wt_54_0, wl_55, wt_56_6, wt_56_7, wt_56_8, wt_56_13, wt_56_14, wt_56_15, wt_56_16, wt_56_18, wt_56_21, wt_56_22, wt_56_23, wt_56_24, wt_56_25, wt_56_26, wt_56_27, wt_56_44, wt_56_45, wt_56_46, wt_56_47, wt_56_48, wt_56_49, wt_56_50, wt_56_51, wt_56_52, wt_56_53, wl_57, wl_58, wl_59, wl_60, wl_61, wl_62, wl_63, wl_64, wl_65, wl_66, wl_67, wl_68, wl_69, wl_70, wl_71, wl_72, wl_73, wl_74, wl_75, wl_76, wl_77, wl_78, wl_79, wl_80, wl_81, wl_82, s4, hc0, a1, a2, if_false, if_true, n1]
      simp [show ¬ nI 6 < 6 by decide]
    · unfold f_RM_note lt
      simp only [r4, hc0, e16, n2, if_false, mput_app, and_self, if_true, show ¬ (1 : Int32) = 0 by decide, show nI 6 = (6 : Int32) from rfl]
      rw [if_neg (by decide)]
  have l6 : nI nn < 6 := nI_lt (b := 6) (by omega) (by decide)
  have l6' : ¬ nI nn = 6 := fun z => by rw [z] at l6; exact absurd l6 (by decide)
  refine fin_ok (v := nI nn) (σ1 := mput (mput (mput σ 12 nn (nI k1)) 14 nn 0) 10 3 (nI (nn + 1))) (τ1 := mput (mput (mput (mput τ 56 1 0) 60 nn (nI k1)) 61 nn 0) 56 12 (nI (nn + 1))) ?_ ?_ ?_ ?_ ?_ ?_
  · unfold f_LF_note f_LF_wantPicture f_NO_full f_NO_open xcase lt
    simp only [wt_0_1, wt_0_2, wt_0_3, wt_0_4, wt_0_5, wt_1_0, wt_1_1, wt_1_2, wt_1_3, wt_1_4, wt_2_0, wl_3, wt_4_0, wl_5, wt_6_0, wl_7, wt_8_0, wl_9, wt_10_0, wt_10_1, wt_10_2, wt_11_0, wl_12, wt_13_0, wl_14, wt_15_0, wl_16, wt_17_0, wl_18, wt_19_0, wl_20, wt_21_0, wt_21_1, wt_21_2, wt_21_3, wt_22_0, wt_22_1, wt_22_2, wt_23_0, wl_24, wt_25_0, wl_26, wt_27_0, wl_28, wt_29_0, wt_30_0, wt_30_1, wt_30_2, wt_30_3, wt_30_4, wt_30_5, wt_31_0, wt_31_1, wt_31_2, wt_31_3, wt_31_4, wt_32_0, wl_33, wt_34_0, wl_35, wt_36_0, wl_37, wt_38_0, wl_39, wt_40_0, wt_40_1, wt_40_2, wt_41_0, wl_42, wt_43_0, wl_44, wt_45_0, wl_46, wt_48_0, wt_48_1, wt_49_0, wt_49_1, wt_49_2, wt_50_0, wl_51, wt_52_0, wl_53, wt_54_0, wl_55, wt_56_6, wt_56_7, wt_56_8, wt_56_13, wt_56_14, wt_56_15, wt_56_16, wt_56_18, wt_56_21, wt_56_22, wt_56_23, wt_56_24, wt_56_25, wt_56_26, wt_56_27, wt_56_44, wt_56_45, wt_56_46, wt_56_47, wt_56_48, wt_56_49, wt_56_50, wt_56_51, wt_56_52, wt_56_53, wl_57, wl_58, wl_59, wl_60, wl_61, wl_62, wl_63, wl_64, wl_65, wl_66, wl_67, wl_68, wl_69, wl_70, wl_71, wl_72, wl_73, wl_74, wl_75, wl_76, wl_77, wl_78, wl_79, wl_80, wl_81, wl_82, s4, hc0, a1, a2, if_false, if_true, n1, l6]
    rw [ro_set (k := 11) (a := 12) (n := 6) (by decide +kernel) (by decide +kernel) (by omega) (by decide), ro_set (k := 13) (a := 14) (n := 6) (by decide +kernel) (by decide +kernel) (by omega) (by decide)]
    simp only [mput_cell, Nat.reduceEqDiff, not_false_eq_true, n1, nI_1]
  · unfold f_RM_note lt
    simp only [wt_0_1, wt_0_2, wt_0_3, wt_0_4, wt_0_5, wt_1_0, wt_1_1, wt_1_2, wt_1_3, wt_1_4, wt_2_0, wl_3, wt_4_0, wl_5, wt_6_0, wl_7, wt_8_0, wl_9, wt_10_0, wt_10_1, wt_10_2, wt_11_0, wl_12, wt_13_0, wl_14, wt_15_0, wl_16, wt_17_0, wl_18, wt_19_0, wl_20, wt_21_0, wt_21_1, wt_21_2, wt_21_3, wt_22_0, wt_22_1, wt_22_2, wt_23_0, wl_24, wt_25_0, wl_26, wt_27_0, wl_28, wt_29_0, wt_30_0, wt_30_1, wt_30_2, wt_30_3, wt_30_4, wt_30_5, wt_31_0, wt_31_1, wt_31_2, wt_31_3, wt_31_4, wt_32_0, wl_33, wt_34_0, wl_35, wt_36_0, wl_37, wt_38_0, wl_39, wt_40_0, wt_40_1, wt_40_2, wt_41_0, wl_42, wt_43_0, wl_44, wt_45_0, wl_46, wt_48_0, wt_48_1, wt_49_0, wt_49_1, wt_49_2, wt_50_0, wl_51, wt_52_0, wl_53, wt_54_0, wl_55, wt_56_6, wt_56_7, wt_56_8, wt_56_13, wt_56_14, wt_56_15, wt_56_16, wt_56_18, wt_56_21, wt_56_22, wt_56_23, wt_56_24, wt_56_25, wt_56_26, wt_56_27, wt_56_44, wt_56_45, wt_56_46, wt_56_47, wt_56_48, wt_56_49, wt_56_50, wt_56_51, wt_56_52, wt_56_53, wl_57, wl_58, wl_59, wl_60, wl_61, wl_62, wl_63, wl_64, wl_65, wl_66, wl_67, wl_68, wl_69, wl_70, wl_71, wl_72, wl_73, wl_74, wl_75, wl_76, wl_77, wl_78, wl_79, wl_80, wl_81, wl_82, r4, hc0, e16, n2, l6', if_false, show ¬ (1 : Int32) = 0 by decide]
    simp only [mput_app, and_self, if_true, show (0 : Int32) ≤ 0 by decide, and_false, Nat.reduceEqDiff, if_false, n2, inb_nI (show nn < 6 by omega) (by decide), nI_clamp (show nn < 2 ^ 31 by omega), false_and, nI_1, nI_pred]
  · exact fun k hk => by simp only [mput_cell (show ¬ k = 10 by omega), mput_cell (show ¬ k = 12 by omega), mput_cell (show ¬ k = 14 by omega)]
  · exact fun k hk => by simp only [mput_cell (show ¬ k = 56 by omega), mput_cell (show ¬ k = 60 by omega), mput_cell (show ¬ k = 61 by omega)]
  · refine H.pic (fun k hk => by simp only [mput_cell (show ¬ k = 10 by omega), mput_cell (show ¬ k = 12 by omega), mput_cell (show ¬ k = 14 by omega)]) (fun j hj => by simp [mput_app, show ¬ j = 1 by omega, show ¬ j = 12 by omega]) (fun k hk => by simp only [mput_cell (show ¬ k = 56 by omega), mput_cell (show ¬ k = 60 by omega), mput_cell (show ¬ k = 61 by omega)]) (w := w) (h := h) (b := b) (c := c) (nn := nn + 1) (rs := rs) (st := st) (rt := rt) ?_
    unfold RPic
    simp only [mput_row, mput_cell, Nat.reduceEqDiff, not_false_eq_true]
    exact ⟨⟨s1, s2, s3, s4⟩, by simp [upd, r1, r2, r3, r4], ⟨by simp [upd], by simp [upd], by omega, fun z => absurd z hc⟩, hd, hsam, htab, hnum, by simpa [upd] using hpre, ⟨eqn_upd hk.1, bnd_upd hk.2 (by omega)⟩, ⟨eqn_upd hs.1, bnd_upd (v := 0) hs.2 (by omega)⟩, hb⟩
  · simp [mput_app]
set_option maxRecDepth 100000 in
set_option maxHeartbeats 4000000 in
theorem o_byteOf : O_byteOf Inv := by
  intro σ p1 p2 hI
  refine owed_of2 hI (fun τ H => ?_)
  obtain ⟨⟨t, hT⟩, ⟨w, h, b, c, nn, rs, st, rt, hPic⟩, ⟨n, hW⟩, ⟨m, hC⟩, hR⟩ := id H
  obtain ⟨⟨s1, s2, s3, s4⟩, ⟨r1, r2, r3, r4⟩, ⟨n1, n2, n3, n4⟩, hd, hsam, htab, hnum, hpre, hk, hs, hb⟩ := id hPic
  by_cases hc : c = 0
  · subst hc
    refine fin_thr (n := 1) (k := 1) H ?_ ?_ (by decide) (by decide)
    · unfold f_LF_byteOf f_LF_wantPicture xcase
      simp only [wt_0_1, wt_0_2, wt_0_3, wt_0_4, wt_0_5, wt_1_0, wt_1_1, wt_1_2, wt_1_3, wt_1_4, wt_2_0, wl_3, wt_4_0, wl_5, wt_6_0, wl_7, wt_8_0, wl_9, wt_10_0, wt_10_1, wt_10_2, wt_11_0, wl_12, wt_13_0, wl_14, wt_15_0, wl_16, wt_17_0, wl_18, wt_19_0, wl_20, wt_21_0, wt_21_1, wt_21_2, wt_21_3, wt_22_0, wt_22_1, wt_22_2, wt_23_0, wl_24, wt_25_0, wl_26, wt_27_0, wl_28, wt_29_0, wt_30_0, wt_30_1, wt_30_2, wt_30_3, wt_30_4, wt_30_5, wt_31_0, wt_31_1, wt_31_2, wt_31_3, wt_31_4, wt_32_0, wl_33, wt_34_0, wl_35, wt_36_0, wl_37, wt_38_0, wl_39, wt_40_0, wt_40_1, wt_40_2, wt_41_0, wl_42, wt_43_0, wl_44, wt_45_0, wl_46, wt_48_0, wt_48_1, wt_49_0, wt_49_1, wt_49_2, wt_50_0, wl_51, wt_52_0, wl_53, wt_54_0, wl_55, wt_56_6, wt_56_7, wt_56_8, wt_56_13, wt_56_14, wt_56_15, wt_56_16, wt_56_18, wt_56_21, wt_56_22, wt_56_23, wt_56_24, wt_56_25, wt_56_26, wt_56_27, wt_56_44, wt_56_45, wt_56_46, wt_56_47, wt_56_48, wt_56_49, wt_56_50, wt_56_51, wt_56_52, wt_56_53, wl_57, wl_58, wl_59, wl_60, wl_61, wl_62, wl_63, wl_64, wl_65, wl_66, wl_67, wl_68, wl_69, wl_70, wl_71, wl_72, wl_73, wl_74, wl_75, wl_76, wl_77, wl_78, wl_79, wl_80, wl_81, wl_82, s4, show nI 0 = 0 from rfl, if_true]
    · unfold f_RM_byteOf lt
      simp only [r4, show nI 0 = 0 from rfl, if_true, mput_app, and_self]
      rw [if_neg (by decide)]
  have hc0 : ¬ nI c = 0 := nI_c0 hc (by omega)
  have eN : ∀ x : Int32, f_NO_has 10 x σ = inI x nn := fun x => by unfold f_NO_has inI; rw [n1]
  have eM : ∀ x : Int32, f_RM_isIn x (0 : Int32) ((τ 56 12) - (1 : Int32)) τ = inI x nn := fun x => by rw [n2]; exact isIn0 (by omega)
  rcases inI_cases p1 (c := nn) (by omega) with h1 | ⟨k1, hk1, rfl⟩
  · refine fin_thr (n := 2) (k := 2) H ?_ ?_ (by decide) (by decide)
    · unfold f_LF_byteOf f_LF_wantPicture xcase
      simp only [wt_0_1, wt_0_2, wt_0_3, wt_0_4, wt_0_5, wt_1_0, wt_1_1, wt_1_2, wt_1_3, wt_1_4, wt_2_0, wl_3, wt_4_0, wl_5, wt_6_0, wl_7, wt_8_0, wl_9, wt_10_0, wt_10_1, wt_10_2, wt_11_0, wl_12, wt_13_0, wl_14, wt_15_0, wl_16, wt_17_0, wl_18, wt_19_0, wl_20, wt_21_0, wt_21_1, wt_21_2, wt_21_3, wt_22_0, wt_22_1, wt_22_2, wt_23_0, wl_24, wt_25_0, wl_26, wt_27_0, wl_28, wt_29_0, wt_30_0, wt_30_1, wt_30_2, wt_30_3, wt_30_4, wt_30_5, wt_31_0, wt_31_1, wt_31_2, wt_31_3, wt_31_4, wt_32_0, wl_33, wt_34_0, wl_35, wt_36_0, wl_37, wt_38_0, wl_39, wt_40_0, wt_40_1, wt_40_2, wt_41_0, wl_42, wt_43_0, wl_44, wt_45_0, wl_46, wt_48_0, wt_48_1, wt_49_0, wt_49_1, wt_49_2, wt_50_0, wl_51, wt_52_0, wl_53, wt_54_0, wl_55, wt_56_6, wt_56_7, wt_56_8, wt_56_13, wt_56_14, wt_56_15, wt_56_16, wt_56_18, wt_56_21, wt_56_22, wt_56_23, wt_56_24, wt_56_25, wt_56_26, wt_56_27, wt_56_44, wt_56_45, wt_56_46, wt_56_47, wt_56_48, wt_56_49, wt_56_50, wt_56_51, wt_56_52, wt_56_53, wl_57, wl_58, wl_59, wl_60, wl_61, wl_62, wl_63, wl_64, wl_65, wl_66, wl_67, wl_68, wl_69, wl_70, wl_71, wl_72, wl_73, wl_74, wl_75, wl_76, wl_77, wl_78, wl_79, wl_80, wl_81, wl_82, s4, hc0, if_false, eN, h1, if_true]
    · unfold f_RM_byteOf lt
      simp only [r4, hc0, eM, h1, if_false, if_true, mput_app, and_self]
      rw [if_neg (by decide)]
  have y1 : inI (nI k1) nn = 1 := inI_yes hk1 (by omega)
  have eB : ∀ x : Int32, f_LF_wantByte x σ = if inI x 256 = 0 then .inr 3 else .inl () := by
    intro x
    unfold f_LF_wantByte inI
    by_cases a : x < 0
    · simp [a]
    · by_cases a2 : x ≤ 255
      · have a3 : ¬ nI 256 ≤ x := by
          show ¬ (256 : Int32) ≤ x
          (simp only [Int32.lt_iff_toInt_lt, Int32.le_iff_toInt_le, ← Int32.toInt_inj, Int32.toInt_add, Int32.toInt_sub, Int32.toInt_mul, Int32.toInt_neg, Int.bmod_def] at *; simp at *; omega)
        simp [a, a2, a3]
      · have a3 : nI 256 ≤ x := by
          show (256 : Int32) ≤ x
          (simp only [Int32.lt_iff_toInt_lt, Int32.le_iff_toInt_le, ← Int32.toInt_inj, Int32.toInt_add, Int32.toInt_sub, Int32.toInt_mul, Int32.toInt_neg, Int.bmod_def] at *; simp at *; omega)
        simp [a, a2, a3]
  have eC : ∀ x : Int32, f_RM_isIn x (0 : Int32) (255 : Int32) τ = inI x 256 := fun x => isInN (c := 255) (by decide)
  rcases inI_cases p2 (c := 256) (by decide) with h2 | ⟨v, hv, rfl⟩
  · refine fin_thr (n := 3) (k := 3) H ?_ ?_ (by decide) (by decide)
    · unfold f_LF_byteOf f_LF_wantPicture xcase
      simp only [wt_0_1, wt_0_2, wt_0_3, wt_0_4, wt_0_5, wt_1_0, wt_1_1, wt_1_2, wt_1_3, wt_1_4, wt_2_0, wl_3, wt_4_0, wl_5, wt_6_0, wl_7, wt_8_0, wl_9, wt_10_0, wt_10_1, wt_10_2, wt_11_0, wl_12, wt_13_0, wl_14, wt_15_0, wl_16, wt_17_0, wl_18, wt_19_0, wl_20, wt_21_0, wt_21_1, wt_21_2, wt_21_3, wt_22_0, wt_22_1, wt_22_2, wt_23_0, wl_24, wt_25_0, wl_26, wt_27_0, wl_28, wt_29_0, wt_30_0, wt_30_1, wt_30_2, wt_30_3, wt_30_4, wt_30_5, wt_31_0, wt_31_1, wt_31_2, wt_31_3, wt_31_4, wt_32_0, wl_33, wt_34_0, wl_35, wt_36_0, wl_37, wt_38_0, wl_39, wt_40_0, wt_40_1, wt_40_2, wt_41_0, wl_42, wt_43_0, wl_44, wt_45_0, wl_46, wt_48_0, wt_48_1, wt_49_0, wt_49_1, wt_49_2, wt_50_0, wl_51, wt_52_0, wl_53, wt_54_0, wl_55, wt_56_6, wt_56_7, wt_56_8, wt_56_13, wt_56_14, wt_56_15, wt_56_16, wt_56_18, wt_56_21, wt_56_22, wt_56_23, wt_56_24, wt_56_25, wt_56_26, wt_56_27, wt_56_44, wt_56_45, wt_56_46, wt_56_47, wt_56_48, wt_56_49, wt_56_50, wt_56_51, wt_56_52, wt_56_53, wl_57, wl_58, wl_59, wl_60, wl_61, wl_62, wl_63, wl_64, wl_65, wl_66, wl_67, wl_68, wl_69, wl_70, wl_71, wl_72, wl_73, wl_74, wl_75, wl_76, wl_77, wl_78, wl_79, wl_80, wl_81, wl_82, s4, hc0, if_false, eN, y1, show ¬ (1 : Int32) = 0 by decide, eB, h2, if_true]
    · unfold f_RM_byteOf lt
      simp only [r4, hc0, eM, y1, eC, h2, if_false, if_true, mput_app, and_self, show ¬ (1 : Int32) = 0 by decide]
      rw [if_neg (by decide)]
  have y2 : inI (nI v) 256 = 1 := inI_yes hv (by decide)
  obtain ⟨z, hz, ez⟩ := hs.2 k1 (by omega)
  have ez2 : τ 61 k1 = nI z := by rw [← hs.1 k1 (by omega)]; exact ez
  have eS : f_NO_sizeOf 10 (nI k1) σ = nI z := by
    unfold f_NO_sizeOf
    rw [ro_get (a := 14) (n := 6) (by decide +kernel) (by decide +kernel) (by omega) (by decide), ez]
  have eS2 : f_RO_get 13 (nI k1) σ = nI z := by
    rw [ro_get (a := 14) (n := 6) (by decide +kernel) (by decide +kernel) (by omega) (by decide), ez]
  have ib : inb (nI k1) 6 = true := inb_nI (by omega) (by decide)
  have cl : (nI k1).toNatClampNeg = k1 := nI_clamp (by omega)
  by_cases hz30 : z = 30
  · subst hz30
    refine fin_thr (n := 4) (k := 4) H ?_ ?_ (by decide) (by decide)
    · unfold f_LF_byteOf f_LF_wantPicture xcase
      simp only [wt_0_1, wt_0_2, wt_0_3, wt_0_4, wt_0_5, wt_1_0, wt_1_1, wt_1_2, wt_1_3, wt_1_4, wt_2_0, wl_3, wt_4_0, wl_5, wt_6_0, wl_7, wt_8_0, wl_9, wt_10_0, wt_10_1, wt_10_2, wt_11_0, wl_12, wt_13_0, wl_14, wt_15_0, wl_16, wt_17_0, wl_18, wt_19_0, wl_20, wt_21_0, wt_21_1, wt_21_2, wt_21_3, wt_22_0, wt_22_1, wt_22_2, wt_23_0, wl_24, wt_25_0, wl_26, wt_27_0, wl_28, wt_29_0, wt_30_0, wt_30_1, wt_30_2, wt_30_3, wt_30_4, wt_30_5, wt_31_0, wt_31_1, wt_31_2, wt_31_3, wt_31_4, wt_32_0, wl_33, wt_34_0, wl_35, wt_36_0, wl_37, wt_38_0, wl_39, wt_40_0, wt_40_1, wt_40_2, wt_41_0, wl_42, wt_43_0, wl_44, wt_45_0, wl_46, wt_48_0, wt_48_1, wt_49_0, wt_49_1, wt_49_2, wt_50_0, wl_51, wt_52_0, wl_53, wt_54_0, wl_55, wt_56_6, wt_56_7, wt_56_8, wt_56_13, wt_56_14, wt_56_15, wt_56_16, wt_56_18, wt_56_21, wt_56_22, wt_56_23, wt_56_24, wt_56_25, wt_56_26, wt_56_27, wt_56_44, wt_56_45, wt_56_46, wt_56_47, wt_56_48, wt_56_49, wt_56_50, wt_56_51, wt_56_52, wt_56_53, wl_57, wl_58, wl_59, wl_60, wl_61, wl_62, wl_63, wl_64, wl_65, wl_66, wl_67, wl_68, wl_69, wl_70, wl_71, wl_72, wl_73, wl_74, wl_75, wl_76, wl_77, wl_78, wl_79, wl_80, wl_81, wl_82, s4, hc0, if_false, eN, y1, show ¬ (1 : Int32) = 0 by decide, eB, y2, eS]
      simp [show ¬ nI 30 < 30 by decide]
    · unfold f_RM_byteOf lt
      simp only [wt_0_1, wt_0_2, wt_0_3, wt_0_4, wt_0_5, wt_1_0, wt_1_1, wt_1_2, wt_1_3, wt_1_4, wt_2_0, wl_3, wt_4_0, wl_5, wt_6_0, wl_7, wt_8_0, wl_9, wt_10_0, wt_10_1, wt_10_2, wt_11_0, wl_12, wt_13_0, wl_14, wt_15_0, wl_16, wt_17_0, wl_18, wt_19_0, wl_20, wt_21_0, wt_21_1, wt_21_2, wt_21_3, wt_22_0, wt_22_1, wt_22_2, wt_23_0, wl_24, wt_25_0, wl_26, wt_27_0, wl_28, wt_29_0, wt_30_0, wt_30_1, wt_30_2, wt_30_3, wt_30_4, wt_30_5, wt_31_0, wt_31_1, wt_31_2, wt_31_3, wt_31_4, wt_32_0, wl_33, wt_34_0, wl_35, wt_36_0, wl_37, wt_38_0, wl_39, wt_40_0, wt_40_1, wt_40_2, wt_41_0, wl_42, wt_43_0, wl_44, wt_45_0, wl_46, wt_48_0, wt_48_1, wt_49_0, wt_49_1, wt_49_2, wt_50_0, wl_51, wt_52_0, wl_53, wt_54_0, wl_55, wt_56_6, wt_56_7, wt_56_8, wt_56_13, wt_56_14, wt_56_15, wt_56_16, wt_56_18, wt_56_21, wt_56_22, wt_56_23, wt_56_24, wt_56_25, wt_56_26, wt_56_27, wt_56_44, wt_56_45, wt_56_46, wt_56_47, wt_56_48, wt_56_49, wt_56_50, wt_56_51, wt_56_52, wt_56_53, wl_57, wl_58, wl_59, wl_60, wl_61, wl_62, wl_63, wl_64, wl_65, wl_66, wl_67, wl_68, wl_69, wl_70, wl_71, wl_72, wl_73, wl_74, wl_75, wl_76, wl_77, wl_78, wl_79, wl_80, wl_81, wl_82, r4, hc0, eM, y1, eC, y2, ib, cl, ez2, if_false, if_true, mput_app, and_self, show ¬ (1 : Int32) = 0 by decide, show nI 30 = (30 : Int32) from rfl]
      rw [if_neg (by decide)]
  have l30 : nI z < 30 := nI_lt (b := 30) (by omega) (by decide)
  have l30' : ¬ nI z = 30 := fun q => by rw [q] at l30; exact absurd l30 (by decide)
  have ei : nI k1 * 30 + nI z = nI (30 * k1 + z) := by
    rw [show (30 : Int32) = nI 30 from rfl, nI_mul, nI_add]
    congr 1; omega
  have ej : 30 * nI k1 + nI z = nI (30 * k1 + z) := by
    rw [show (30 : Int32) = nI 30 from rfl, nI_mul, nI_add]
  refine fin_ok (v := nI (z + 1)) (σ1 := mput (mput σ 16 (30 * k1 + z) (nI v)) 14 k1 (nI (z + 1))) (τ1 := mput (mput (mput τ 56 1 0) 62 (30 * k1 + z) (nI v)) 61 k1 (nI (z + 1))) ?_ ?_ ?_ ?_ ?_ ?_
  · unfold f_LF_byteOf f_LF_wantPicture f_NO_append xcase lt
    simp only [wt_0_1, wt_0_2, wt_0_3, wt_0_4, wt_0_5, wt_1_0, wt_1_1, wt_1_2, wt_1_3, wt_1_4, wt_2_0, wl_3, wt_4_0, wl_5, wt_6_0, wl_7, wt_8_0, wl_9, wt_10_0, wt_10_1, wt_10_2, wt_11_0, wl_12, wt_13_0, wl_14, wt_15_0, wl_16, wt_17_0, wl_18, wt_19_0, wl_20, wt_21_0, wt_21_1, wt_21_2, wt_21_3, wt_22_0, wt_22_1, wt_22_2, wt_23_0, wl_24, wt_25_0, wl_26, wt_27_0, wl_28, wt_29_0, wt_30_0, wt_30_1, wt_30_2, wt_30_3, wt_30_4, wt_30_5, wt_31_0, wt_31_1, wt_31_2, wt_31_3, wt_31_4, wt_32_0, wl_33, wt_34_0, wl_35, wt_36_0, wl_37, wt_38_0, wl_39, wt_40_0, wt_40_1, wt_40_2, wt_41_0, wl_42, wt_43_0, wl_44, wt_45_0, wl_46, wt_48_0, wt_48_1, wt_49_0, wt_49_1, wt_49_2, wt_50_0, wl_51, wt_52_0, wl_53, wt_54_0, wl_55, wt_56_6, wt_56_7, wt_56_8, wt_56_13, wt_56_14, wt_56_15, wt_56_16, wt_56_18, wt_56_21, wt_56_22, wt_56_23, wt_56_24, wt_56_25, wt_56_26, wt_56_27, wt_56_44, wt_56_45, wt_56_46, wt_56_47, wt_56_48, wt_56_49, wt_56_50, wt_56_51, wt_56_52, wt_56_53, wl_57, wl_58, wl_59, wl_60, wl_61, wl_62, wl_63, wl_64, wl_65, wl_66, wl_67, wl_68, wl_69, wl_70, wl_71, wl_72, wl_73, wl_74, wl_75, wl_76, wl_77, wl_78, wl_79, wl_80, wl_81, wl_82, s4, hc0, if_false, eN, y1, show ¬ (1 : Int32) = 0 by decide, eB, y2, eS, l30, if_true, eS2, ei, nI_1]
    rw [ro_set (k := 15) (a := 16) (n := 180) (by decide +kernel) (by decide +kernel) (by omega) (by decide), ro_set (k := 13) (a := 14) (n := 6) (by decide +kernel) (by decide +kernel) (by omega) (by decide)]
  · unfold f_RM_byteOf lt
    simp only [wt_0_1, wt_0_2, wt_0_3, wt_0_4, wt_0_5, wt_1_0, wt_1_1, wt_1_2, wt_1_3, wt_1_4, wt_2_0, wl_3, wt_4_0, wl_5, wt_6_0, wl_7, wt_8_0, wl_9, wt_10_0, wt_10_1, wt_10_2, wt_11_0, wl_12, wt_13_0, wl_14, wt_15_0, wl_16, wt_17_0, wl_18, wt_19_0, wl_20, wt_21_0, wt_21_1, wt_21_2, wt_21_3, wt_22_0, wt_22_1, wt_22_2, wt_23_0, wl_24, wt_25_0, wl_26, wt_27_0, wl_28, wt_29_0, wt_30_0, wt_30_1, wt_30_2, wt_30_3, wt_30_4, wt_30_5, wt_31_0, wt_31_1, wt_31_2, wt_31_3, wt_31_4, wt_32_0, wl_33, wt_34_0, wl_35, wt_36_0, wl_37, wt_38_0, wl_39, wt_40_0, wt_40_1, wt_40_2, wt_41_0, wl_42, wt_43_0, wl_44, wt_45_0, wl_46, wt_48_0, wt_48_1, wt_49_0, wt_49_1, wt_49_2, wt_50_0, wl_51, wt_52_0, wl_53, wt_54_0, wl_55, wt_56_6, wt_56_7, wt_56_8, wt_56_13, wt_56_14, wt_56_15, wt_56_16, wt_56_18, wt_56_21, wt_56_22, wt_56_23, wt_56_24, wt_56_25, wt_56_26, wt_56_27, wt_56_44, wt_56_45, wt_56_46, wt_56_47, wt_56_48, wt_56_49, wt_56_50, wt_56_51, wt_56_52, wt_56_53, wl_57, wl_58, wl_59, wl_60, wl_61, wl_62, wl_63, wl_64, wl_65, wl_66, wl_67, wl_68, wl_69, wl_70, wl_71, wl_72, wl_73, wl_74, wl_75, wl_76, wl_77, wl_78, wl_79, wl_80, wl_81, wl_82, r4, hc0, eM, y1, eC, y2, ib, cl, ez2, l30', if_false, if_true, show ¬ (1 : Int32) = 0 by decide]
    simp only [mput_app, and_self, if_true, show (0 : Int32) ≤ 0 by decide, Nat.reduceEqDiff, false_and, if_false, ez2, ej, inb_nI (show 30 * k1 + z < 180 by omega) (by decide), nI_clamp (show 30 * k1 + z < 2 ^ 31 by omega), nI_1]
  · exact fun k hk => by simp only [mput_cell (show ¬ k = 14 by omega), mput_cell (show ¬ k = 16 by omega)]
  · exact fun k hk => by simp only [mput_cell (show ¬ k = 56 by omega), mput_cell (show ¬ k = 62 by omega), mput_cell (show ¬ k = 61 by omega)]
  · refine H.pic (fun k hk => by simp only [mput_cell (show ¬ k = 14 by omega), mput_cell (show ¬ k = 16 by omega)]) (fun j hj => by simp [mput_app, show ¬ j = 1 by omega]) (fun k hk => by simp only [mput_cell (show ¬ k = 56 by omega), mput_cell (show ¬ k = 62 by omega), mput_cell (show ¬ k = 61 by omega)]) (w := w) (h := h) (b := b) (c := c) (nn := nn) (rs := rs) (st := st) (rt := rt) ?_
    unfold RPic
    simp only [mput_row, mput_cell, Nat.reduceEqDiff, not_false_eq_true]
    exact ⟨⟨s1, s2, s3, s4⟩, by simp [upd, r1, r2, r3, r4], by simpa [upd] using ⟨n1, n2, n3, n4⟩, hd, hsam, htab, hnum, by simpa [upd] using hpre, hk, ⟨eqn_upd hs.1, bnd_upd hs.2 (by omega)⟩, ⟨eqn_upd hb.1, bnd_upd hb.2 (by omega)⟩⟩
  · simp [mput_app]
set_option maxRecDepth 100000 in
set_option maxHeartbeats 4000000 in
theorem o_byteAt : O_byteAt Inv := by
  intro σ p1 hI
  have h9 := owed_of2 (F := (f_LF_byteAt 0 p1 σ, σ)) (cds := [(2, 1)]) (ref := f_RM_byteAt 56 p1) hI (fun τ H => ?_)
  · have e : xrIM (f_LF_byteAt 0 p1 σ, σ) = xrI (f_LF_byteAt 0 p1 σ) σ := by cases f_LF_byteAt 0 p1 σ <;> rfl
    rw [e] at h9
    exact h9
  obtain ⟨-, -, ⟨n, w1, w2, w3, w4, w5⟩, -, -⟩ := id H
  have eN : ∀ x : Int32, f_BY_has 17 x σ = inI x n := fun x => by unfold f_BY_has inI; rw [w1]
  have eM : ∀ x : Int32, f_RM_isIn x (0 : Int32) ((τ 56 17) - (1 : Int32)) τ = inI x n := fun x => by rw [w2]; exact isIn0 (by omega)
  rcases inI_cases p1 (c := n) (by omega) with h1 | ⟨k1, hk1, rfl⟩
  · refine fin_thr (n := 2) (k := 1) H ?_ ?_ (by decide) (by decide)
    · unfold f_LF_byteAt
      simp only [wt_0_1, wt_0_2, wt_0_3, wt_0_4, wt_0_5, wt_1_0, wt_1_1, wt_1_2, wt_1_3, wt_1_4, wt_2_0, wl_3, wt_4_0, wl_5, wt_6_0, wl_7, wt_8_0, wl_9, wt_10_0, wt_10_1, wt_10_2, wt_11_0, wl_12, wt_13_0, wl_14, wt_15_0, wl_16, wt_17_0, wl_18, wt_19_0, wl_20, wt_21_0, wt_21_1, wt_21_2, wt_21_3, wt_22_0, wt_22_1, wt_22_2, wt_23_0, wl_24, wt_25_0, wl_26, wt_27_0, wl_28, wt_29_0, wt_30_0, wt_30_1, wt_30_2, wt_30_3, wt_30_4, wt_30_5, wt_31_0, wt_31_1, wt_31_2, wt_31_3, wt_31_4, wt_32_0, wl_33, wt_34_0, wl_35, wt_36_0, wl_37, wt_38_0, wl_39, wt_40_0, wt_40_1, wt_40_2, wt_41_0, wl_42, wt_43_0, wl_44, wt_45_0, wl_46, wt_48_0, wt_48_1, wt_49_0, wt_49_1, wt_49_2, wt_50_0, wl_51, wt_52_0, wl_53, wt_54_0, wl_55, wt_56_6, wt_56_7, wt_56_8, wt_56_13, wt_56_14, wt_56_15, wt_56_16, wt_56_18, wt_56_21, wt_56_22, wt_56_23, wt_56_24, wt_56_25, wt_56_26, wt_56_27, wt_56_44, wt_56_45, wt_56_46, wt_56_47, wt_56_48, wt_56_49, wt_56_50, wt_56_51, wt_56_52, wt_56_53, wl_57, wl_58, wl_59, wl_60, wl_61, wl_62, wl_63, wl_64, wl_65, wl_66, wl_67, wl_68, wl_69, wl_70, wl_71, wl_72, wl_73, wl_74, wl_75, wl_76, wl_77, wl_78, wl_79, wl_80, wl_81, wl_82, eN, h1, if_true]
    · unfold f_RM_byteAt lt
      simp only [eM, h1, if_true, mput_app, and_self]
      rw [if_neg (by decide)]
  have y1 : inI (nI k1) n = 1 := inI_yes hk1 (by omega)
  refine fin_ok (v := σ 18 k1) (σ1 := σ) (τ1 := mput τ 56 1 0) ?_ ?_ (fun _ _ => rfl) FrR.thr H.thr (by simp [mput_app])
  · unfold f_LF_byteAt
    simp only [wt_0_1, wt_0_2, wt_0_3, wt_0_4, wt_0_5, wt_1_0, wt_1_1, wt_1_2, wt_1_3, wt_1_4, wt_2_0, wl_3, wt_4_0, wl_5, wt_6_0, wl_7, wt_8_0, wl_9, wt_10_0, wt_10_1, wt_10_2, wt_11_0, wl_12, wt_13_0, wl_14, wt_15_0, wl_16, wt_17_0, wl_18, wt_19_0, wl_20, wt_21_0, wt_21_1, wt_21_2, wt_21_3, wt_22_0, wt_22_1, wt_22_2, wt_23_0, wl_24, wt_25_0, wl_26, wt_27_0, wl_28, wt_29_0, wt_30_0, wt_30_1, wt_30_2, wt_30_3, wt_30_4, wt_30_5, wt_31_0, wt_31_1, wt_31_2, wt_31_3, wt_31_4, wt_32_0, wl_33, wt_34_0, wl_35, wt_36_0, wl_37, wt_38_0, wl_39, wt_40_0, wt_40_1, wt_40_2, wt_41_0, wl_42, wt_43_0, wl_44, wt_45_0, wl_46, wt_48_0, wt_48_1, wt_49_0, wt_49_1, wt_49_2, wt_50_0, wl_51, wt_52_0, wl_53, wt_54_0, wl_55, wt_56_6, wt_56_7, wt_56_8, wt_56_13, wt_56_14, wt_56_15, wt_56_16, wt_56_18, wt_56_21, wt_56_22, wt_56_23, wt_56_24, wt_56_25, wt_56_26, wt_56_27, wt_56_44, wt_56_45, wt_56_46, wt_56_47, wt_56_48, wt_56_49, wt_56_50, wt_56_51, wt_56_52, wt_56_53, wl_57, wl_58, wl_59, wl_60, wl_61, wl_62, wl_63, wl_64, wl_65, wl_66, wl_67, wl_68, wl_69, wl_70, wl_71, wl_72, wl_73, wl_74, wl_75, wl_76, wl_77, wl_78, wl_79, wl_80, wl_81, wl_82, eN, y1, show ¬ (1 : Int32) = 0 by decide, if_false]
    rw [by_get (a := 18) (by decide +kernel) (by decide +kernel) w1 hk1 w3]
  · unfold f_RM_byteAt lt
    simp only [wt_0_1, wt_0_2, wt_0_3, wt_0_4, wt_0_5, wt_1_0, wt_1_1, wt_1_2, wt_1_3, wt_1_4, wt_2_0, wl_3, wt_4_0, wl_5, wt_6_0, wl_7, wt_8_0, wl_9, wt_10_0, wt_10_1, wt_10_2, wt_11_0, wl_12, wt_13_0, wl_14, wt_15_0, wl_16, wt_17_0, wl_18, wt_19_0, wl_20, wt_21_0, wt_21_1, wt_21_2, wt_21_3, wt_22_0, wt_22_1, wt_22_2, wt_23_0, wl_24, wt_25_0, wl_26, wt_27_0, wl_28, wt_29_0, wt_30_0, wt_30_1, wt_30_2, wt_30_3, wt_30_4, wt_30_5, wt_31_0, wt_31_1, wt_31_2, wt_31_3, wt_31_4, wt_32_0, wl_33, wt_34_0, wl_35, wt_36_0, wl_37, wt_38_0, wl_39, wt_40_0, wt_40_1, wt_40_2, wt_41_0, wl_42, wt_43_0, wl_44, wt_45_0, wl_46, wt_48_0, wt_48_1, wt_49_0, wt_49_1, wt_49_2, wt_50_0, wl_51, wt_52_0, wl_53, wt_54_0, wl_55, wt_56_6, wt_56_7, wt_56_8, wt_56_13, wt_56_14, wt_56_15, wt_56_16, wt_56_18, wt_56_21, wt_56_22, wt_56_23, wt_56_24, wt_56_25, wt_56_26, wt_56_27, wt_56_44, wt_56_45, wt_56_46, wt_56_47, wt_56_48, wt_56_49, wt_56_50, wt_56_51, wt_56_52, wt_56_53, wl_57, wl_58, wl_59, wl_60, wl_61, wl_62, wl_63, wl_64, wl_65, wl_66, wl_67, wl_68, wl_69, wl_70, wl_71, wl_72, wl_73, wl_74, wl_75, wl_76, wl_77, wl_78, wl_79, wl_80, wl_81, wl_82, eM, y1, show ¬ (1 : Int32) = 0 by decide, if_false, mput_app, and_self, if_true, show (0 : Int32) ≤ 0 by decide, inb_nI (show k1 < 9000 by omega) (by decide), nI_clamp (show k1 < 2 ^ 31 by omega), Nat.reduceEqDiff, false_and]
    rw [w4 k1 (by omega)]
set_option maxRecDepth 100000 in
set_option maxHeartbeats 4000000 in
theorem o_feed : O_feed Inv := by
  intro σ p1 hI
  refine owed_of2 hI (fun τ H => ?_)
  obtain ⟨-, -, -, ⟨m, c1, c2, c3, c4, c5⟩, -⟩ := id H
  have eB : ∀ x : Int32, f_LF_wantByte x σ = if inI x 256 = 0 then .inr 3 else .inl () := by
    intro x
    unfold f_LF_wantByte inI
    by_cases a : x < 0
    · simp [a]
    · by_cases a2 : x ≤ 255
      · have a3 : ¬ nI 256 ≤ x := by
          show ¬ (256 : Int32) ≤ x
          (simp only [Int32.lt_iff_toInt_lt, Int32.le_iff_toInt_le, ← Int32.toInt_inj, Int32.toInt_add, Int32.toInt_sub, Int32.toInt_mul, Int32.toInt_neg, Int.bmod_def] at *; simp at *; omega)
        simp [a, a2, a3]
      · have a3 : nI 256 ≤ x := by
          show (256 : Int32) ≤ x
          (simp only [Int32.lt_iff_toInt_lt, Int32.le_iff_toInt_le, ← Int32.toInt_inj, Int32.toInt_add, Int32.toInt_sub, Int32.toInt_mul, Int32.toInt_neg, Int.bmod_def] at *; simp at *; omega)
        simp [a, a2, a3]
  have eC : ∀ x : Int32, f_RM_isIn x (0 : Int32) (255 : Int32) τ = inI x 256 := fun x => isInN (c := 255) (by decide)
  rcases inI_cases p1 (c := 256) (by decide) with h2 | ⟨v, hv, rfl⟩
  · refine fin_thr (n := 3) (k := 1) H ?_ ?_ (by decide) (by decide)
    · unfold f_LF_feed xcase
      simp only [eB, h2, if_true]
    · unfold f_RM_feed lt
      simp only [eC, h2, if_true, mput_app, and_self]
      rw [if_neg (by decide)]
  have y2 : inI (nI v) 256 = 1 := inI_yes hv (by decide)
  by_cases h6 : m = 6000
  · subst h6
    refine fin_thr (n := 4) (k := 2) H ?_ ?_ (by decide) (by decide)
    · unfold f_LF_feed f_BY_room xcase
      simp only [wt_0_1, wt_0_2, wt_0_3, wt_0_4, wt_0_5, wt_1_0, wt_1_1, wt_1_2, wt_1_3, wt_1_4, wt_2_0, wl_3, wt_4_0, wl_5, wt_6_0, wl_7, wt_8_0, wl_9, wt_10_0, wt_10_1, wt_10_2, wt_11_0, wl_12, wt_13_0, wl_14, wt_15_0, wl_16, wt_17_0, wl_18, wt_19_0, wl_20, wt_21_0, wt_21_1, wt_21_2, wt_21_3, wt_22_0, wt_22_1, wt_22_2, wt_23_0, wl_24, wt_25_0, wl_26, wt_27_0, wl_28, wt_29_0, wt_30_0, wt_30_1, wt_30_2, wt_30_3, wt_30_4, wt_30_5, wt_31_0, wt_31_1, wt_31_2, wt_31_3, wt_31_4, wt_32_0, wl_33, wt_34_0, wl_35, wt_36_0, wl_37, wt_38_0, wl_39, wt_40_0, wt_40_1, wt_40_2, wt_41_0, wl_42, wt_43_0, wl_44, wt_45_0, wl_46, wt_48_0, wt_48_1, wt_49_0, wt_49_1, wt_49_2, wt_50_0, wl_51, wt_52_0, wl_53, wt_54_0, wl_55, wt_56_6, wt_56_7, wt_56_8, wt_56_13, wt_56_14, wt_56_15, wt_56_16, wt_56_18, wt_56_21, wt_56_22, wt_56_23, wt_56_24, wt_56_25, wt_56_26, wt_56_27, wt_56_44, wt_56_45, wt_56_46, wt_56_47, wt_56_48, wt_56_49, wt_56_50, wt_56_51, wt_56_52, wt_56_53, wl_57, wl_58, wl_59, wl_60, wl_61, wl_62, wl_63, wl_64, wl_65, wl_66, wl_67, wl_68, wl_69, wl_70, wl_71, wl_72, wl_73, wl_74, wl_75, wl_76, wl_77, wl_78, wl_79, wl_80, wl_81, wl_82, eB, y2, show ¬ (1 : Int32) = 0 by decide, if_false, c1]
      rw [if_neg (by decide)]
    · unfold f_RM_feed lt
      simp only [eC, y2, c2, if_false, if_true, mput_app, and_self, show ¬ (1 : Int32) = 0 by decide, show nI 6000 = (6000 : Int32) from rfl]
      rw [if_neg (by decide)]
  have l6 : (1 : Int32) ≤ 6000 - nI m := by
    rw [show (6000 : Int32) = nI 6000 from rfl, nI_sub c3, show (1 : Int32) = nI 1 from rfl]
    exact nI_le (by omega) (by omega)
  have l6' : ¬ nI m = 6000 := fun z => h6 (nI_inj (by omega) (by decide) z)
  refine fin_ok (v := nI (m + 1)) (σ1 := mput (mput σ 20 m (nI v)) 19 1 (nI (m + 1))) (τ1 := mput (mput (mput τ 56 1 0) 64 m (nI v)) 56 19 (nI (m + 1))) ?_ ?_ ?_ ?_ ?_ ?_
  · unfold f_LF_feed f_BY_room f_BY_size xcase lt
    simp only [wt_0_1, wt_0_2, wt_0_3, wt_0_4, wt_0_5, wt_1_0, wt_1_1, wt_1_2, wt_1_3, wt_1_4, wt_2_0, wl_3, wt_4_0, wl_5, wt_6_0, wl_7, wt_8_0, wl_9, wt_10_0, wt_10_1, wt_10_2, wt_11_0, wl_12, wt_13_0, wl_14, wt_15_0, wl_16, wt_17_0, wl_18, wt_19_0, wl_20, wt_21_0, wt_21_1, wt_21_2, wt_21_3, wt_22_0, wt_22_1, wt_22_2, wt_23_0, wl_24, wt_25_0, wl_26, wt_27_0, wl_28, wt_29_0, wt_30_0, wt_30_1, wt_30_2, wt_30_3, wt_30_4, wt_30_5, wt_31_0, wt_31_1, wt_31_2, wt_31_3, wt_31_4, wt_32_0, wl_33, wt_34_0, wl_35, wt_36_0, wl_37, wt_38_0, wl_39, wt_40_0, wt_40_1, wt_40_2, wt_41_0, wl_42, wt_43_0, wl_44, wt_45_0, wl_46, wt_48_0, wt_48_1, wt_49_0, wt_49_1, wt_49_2, wt_50_0, wl_51, wt_52_0, wl_53, wt_54_0, wl_55, wt_56_6, wt_56_7, wt_56_8, wt_56_13, wt_56_14, wt_56_15, wt_56_16, wt_56_18, wt_56_21, wt_56_22, wt_56_23, wt_56_24, wt_56_25, wt_56_26, wt_56_27, wt_56_44, wt_56_45, wt_56_46, wt_56_47, wt_56_48, wt_56_49, wt_56_50, wt_56_51, wt_56_52, wt_56_53, wl_57, wl_58, wl_59, wl_60, wl_61, wl_62, wl_63, wl_64, wl_65, wl_66, wl_67, wl_68, wl_69, wl_70, wl_71, wl_72, wl_73, wl_74, wl_75, wl_76, wl_77, wl_78, wl_79, wl_80, wl_81, wl_82, eB, y2, show ¬ (1 : Int32) = 0 by decide, if_false, c1, l6, if_true]
    rw [by_add (a := 20) (by decide +kernel) (by decide +kernel) c1 (by omega) (by decide)]
    simp [mput_app]
  · unfold f_RM_feed lt
    simp only [wt_0_1, wt_0_2, wt_0_3, wt_0_4, wt_0_5, wt_1_0, wt_1_1, wt_1_2, wt_1_3, wt_1_4, wt_2_0, wl_3, wt_4_0, wl_5, wt_6_0, wl_7, wt_8_0, wl_9, wt_10_0, wt_10_1, wt_10_2, wt_11_0, wl_12, wt_13_0, wl_14, wt_15_0, wl_16, wt_17_0, wl_18, wt_19_0, wl_20, wt_21_0, wt_21_1, wt_21_2, wt_21_3, wt_22_0, wt_22_1, wt_22_2, wt_23_0, wl_24, wt_25_0, wl_26, wt_27_0, wl_28, wt_29_0, wt_30_0, wt_30_1, wt_30_2, wt_30_3, wt_30_4, wt_30_5, wt_31_0, wt_31_1, wt_31_2, wt_31_3, wt_31_4, wt_32_0, wl_33, wt_34_0, wl_35, wt_36_0, wl_37, wt_38_0, wl_39, wt_40_0, wt_40_1, wt_40_2, wt_41_0, wl_42, wt_43_0, wl_44, wt_45_0, wl_46, wt_48_0, wt_48_1, wt_49_0, wt_49_1, wt_49_2, wt_50_0, wl_51, wt_52_0, wl_53, wt_54_0, wl_55, wt_56_6, wt_56_7, wt_56_8, wt_56_13, wt_56_14, wt_56_15, wt_56_16, wt_56_18, wt_56_21, wt_56_22, wt_56_23, wt_56_24, wt_56_25, wt_56_26, wt_56_27, wt_56_44, wt_56_45, wt_56_46, wt_56_47, wt_56_48, wt_56_49, wt_56_50, wt_56_51, wt_56_52, wt_56_53, wl_57, wl_58, wl_59, wl_60, wl_61, wl_62, wl_63, wl_64, wl_65, wl_66, wl_67, wl_68, wl_69, wl_70, wl_71, wl_72, wl_73, wl_74, wl_75, wl_76, wl_77, wl_78, wl_79, wl_80, wl_81, wl_82, eC, y2, c2, l6', if_false, show ¬ (1 : Int32) = 0 by decide]
    simp only [mput_app, and_self, if_true, show (0 : Int32) ≤ 0 by decide, and_false, Nat.reduceEqDiff, if_false, c2, inb_nI (show m < 6000 by omega) (by decide), nI_clamp (show m < 2 ^ 31 by omega), false_and, nI_1]
  · exact fun k hk => by simp only [mput_cell (show ¬ k = 19 by omega), mput_cell (show ¬ k = 20 by omega)]
  · exact fun k hk => by simp only [mput_cell (show ¬ k = 56 by omega), mput_cell (show ¬ k = 64 by omega)]
  · refine H.came (fun k hk => by simp only [mput_cell (show ¬ k = 19 by omega), mput_cell (show ¬ k = 20 by omega)]) (fun j h1 h2 => by simp [mput_app, h1, h2]) (fun k h1 h2 => by simp only [mput_cell (show ¬ k = 56 by omega), mput_cell h2]) (m := m + 1) ?_
    unfold RCa
    simp only [mput_row, mput_cell, Nat.reduceEqDiff, not_false_eq_true]
    exact ⟨by simp [upd], by simp [upd], by omega, eqn_upd c4, bnd_upd c5 (by omega)⟩
  · simp [mput_app]
set_option maxRecDepth 100000 in
set_option maxHeartbeats 4000000 in
theorem o_alter : O_alter Inv := by
  intro σ p1 p2 hI
  refine owed_of2 hI (fun τ H => ?_)
  obtain ⟨-, -, -, ⟨m, c1, c2, c3, c4, c5⟩, -⟩ := id H
  have eB : ∀ x : Int32, f_LF_wantByte x σ = if inI x 256 = 0 then .inr 3 else .inl () := by
    intro x
    unfold f_LF_wantByte inI
    by_cases a : x < 0
    · simp [a]
    · by_cases a2 : x ≤ 255
      · have a3 : ¬ nI 256 ≤ x := by
          show ¬ (256 : Int32) ≤ x
          (simp only [Int32.lt_iff_toInt_lt, Int32.le_iff_toInt_le, ← Int32.toInt_inj, Int32.toInt_add, Int32.toInt_sub, Int32.toInt_mul, Int32.toInt_neg, Int.bmod_def] at *; simp at *; omega)
        simp [a, a2, a3]
      · have a3 : nI 256 ≤ x := by
          show (256 : Int32) ≤ x
          (simp only [Int32.lt_iff_toInt_lt, Int32.le_iff_toInt_le, ← Int32.toInt_inj, Int32.toInt_add, Int32.toInt_sub, Int32.toInt_mul, Int32.toInt_neg, Int.bmod_def] at *; simp at *; omega)
        simp [a, a2, a3]
  have eC : ∀ x : Int32, f_RM_isIn x (0 : Int32) (255 : Int32) τ = inI x 256 := fun x => isInN (c := 255) (by decide)
  have eN : ∀ x : Int32, f_BY_has 19 x σ = inI x m := fun x => by unfold f_BY_has inI; rw [c1]
  have eM : ∀ x : Int32, f_RM_isIn x (0 : Int32) ((τ 56 19) - (1 : Int32)) τ = inI x m := fun x => by rw [c2]; exact isIn0 (by omega)
  rcases inI_cases p1 (c := m) (by omega) with h1 | ⟨k1, hk1, rfl⟩
  · refine fin_thr (n := 2) (k := 1) H ?_ ?_ (by decide) (by decide)
    · unfold f_LF_alter
      simp only [wt_0_1, wt_0_2, wt_0_3, wt_0_4, wt_0_5, wt_1_0, wt_1_1, wt_1_2, wt_1_3, wt_1_4, wt_2_0, wl_3, wt_4_0, wl_5, wt_6_0, wl_7, wt_8_0, wl_9, wt_10_0, wt_10_1, wt_10_2, wt_11_0, wl_12, wt_13_0, wl_14, wt_15_0, wl_16, wt_17_0, wl_18, wt_19_0, wl_20, wt_21_0, wt_21_1, wt_21_2, wt_21_3, wt_22_0, wt_22_1, wt_22_2, wt_23_0, wl_24, wt_25_0, wl_26, wt_27_0, wl_28, wt_29_0, wt_30_0, wt_30_1, wt_30_2, wt_30_3, wt_30_4, wt_30_5, wt_31_0, wt_31_1, wt_31_2, wt_31_3, wt_31_4, wt_32_0, wl_33, wt_34_0, wl_35, wt_36_0, wl_37, wt_38_0, wl_39, wt_40_0, wt_40_1, wt_40_2, wt_41_0, wl_42, wt_43_0, wl_44, wt_45_0, wl_46, wt_48_0, wt_48_1, wt_49_0, wt_49_1, wt_49_2, wt_50_0, wl_51, wt_52_0, wl_53, wt_54_0, wl_55, wt_56_6, wt_56_7, wt_56_8, wt_56_13, wt_56_14, wt_56_15, wt_56_16, wt_56_18, wt_56_21, wt_56_22, wt_56_23, wt_56_24, wt_56_25, wt_56_26, wt_56_27, wt_56_44, wt_56_45, wt_56_46, wt_56_47, wt_56_48, wt_56_49, wt_56_50, wt_56_51, wt_56_52, wt_56_53, wl_57, wl_58, wl_59, wl_60, wl_61, wl_62, wl_63, wl_64, wl_65, wl_66, wl_67, wl_68, wl_69, wl_70, wl_71, wl_72, wl_73, wl_74, wl_75, wl_76, wl_77, wl_78, wl_79, wl_80, wl_81, wl_82, eN, h1, if_true]
    · unfold f_RM_alter lt
      simp only [eM, h1, if_true, mput_app, and_self]
      rw [if_neg (by decide)]
  have y1 : inI (nI k1) m = 1 := inI_yes hk1 (by omega)
  rcases inI_cases p2 (c := 256) (by decide) with h2 | ⟨v, hv, rfl⟩
  · refine fin_thr (n := 3) (k := 2) H ?_ ?_ (by decide) (by decide)
    · unfold f_LF_alter xcase
      simp only [wt_0_1, wt_0_2, wt_0_3, wt_0_4, wt_0_5, wt_1_0, wt_1_1, wt_1_2, wt_1_3, wt_1_4, wt_2_0, wl_3, wt_4_0, wl_5, wt_6_0, wl_7, wt_8_0, wl_9, wt_10_0, wt_10_1, wt_10_2, wt_11_0, wl_12, wt_13_0, wl_14, wt_15_0, wl_16, wt_17_0, wl_18, wt_19_0, wl_20, wt_21_0, wt_21_1, wt_21_2, wt_21_3, wt_22_0, wt_22_1, wt_22_2, wt_23_0, wl_24, wt_25_0, wl_26, wt_27_0, wl_28, wt_29_0, wt_30_0, wt_30_1, wt_30_2, wt_30_3, wt_30_4, wt_30_5, wt_31_0, wt_31_1, wt_31_2, wt_31_3, wt_31_4, wt_32_0, wl_33, wt_34_0, wl_35, wt_36_0, wl_37, wt_38_0, wl_39, wt_40_0, wt_40_1, wt_40_2, wt_41_0, wl_42, wt_43_0, wl_44, wt_45_0, wl_46, wt_48_0, wt_48_1, wt_49_0, wt_49_1, wt_49_2, wt_50_0, wl_51, wt_52_0, wl_53, wt_54_0, wl_55, wt_56_6, wt_56_7, wt_56_8, wt_56_13, wt_56_14, wt_56_15, wt_56_16, wt_56_18, wt_56_21, wt_56_22, wt_56_23, wt_56_24, wt_56_25, wt_56_26, wt_56_27, wt_56_44, wt_56_45, wt_56_46, wt_56_47, wt_56_48, wt_56_49, wt_56_50, wt_56_51, wt_56_52, wt_56_53, wl_57, wl_58, wl_59, wl_60, wl_61, wl_62, wl_63, wl_64, wl_65, wl_66, wl_67, wl_68, wl_69, wl_70, wl_71, wl_72, wl_73, wl_74, wl_75, wl_76, wl_77, wl_78, wl_79, wl_80, wl_81, wl_82, eN, y1, show ¬ (1 : Int32) = 0 by decide, if_false, eB, h2, if_true]
    · unfold f_RM_alter lt
      simp only [eM, y1, eC, h2, if_false, if_true, mput_app, and_self, show ¬ (1 : Int32) = 0 by decide]
      rw [if_neg (by decide)]
  have y2 : inI (nI v) 256 = 1 := inI_yes hv (by decide)
  refine fin_ok (v := σ 20 k1) (σ1 := mput σ 20 k1 (nI v)) (τ1 := mput (mput τ 56 1 0) 64 k1 (nI v)) ?_ ?_ ?_ ?_ ?_ ?_
  · unfold f_LF_alter f_BY_set xcase lt
    simp only [wt_0_1, wt_0_2, wt_0_3, wt_0_4, wt_0_5, wt_1_0, wt_1_1, wt_1_2, wt_1_3, wt_1_4, wt_2_0, wl_3, wt_4_0, wl_5, wt_6_0, wl_7, wt_8_0, wl_9, wt_10_0, wt_10_1, wt_10_2, wt_11_0, wl_12, wt_13_0, wl_14, wt_15_0, wl_16, wt_17_0, wl_18, wt_19_0, wl_20, wt_21_0, wt_21_1, wt_21_2, wt_21_3, wt_22_0, wt_22_1, wt_22_2, wt_23_0, wl_24, wt_25_0, wl_26, wt_27_0, wl_28, wt_29_0, wt_30_0, wt_30_1, wt_30_2, wt_30_3, wt_30_4, wt_30_5, wt_31_0, wt_31_1, wt_31_2, wt_31_3, wt_31_4, wt_32_0, wl_33, wt_34_0, wl_35, wt_36_0, wl_37, wt_38_0, wl_39, wt_40_0, wt_40_1, wt_40_2, wt_41_0, wl_42, wt_43_0, wl_44, wt_45_0, wl_46, wt_48_0, wt_48_1, wt_49_0, wt_49_1, wt_49_2, wt_50_0, wl_51, wt_52_0, wl_53, wt_54_0, wl_55, wt_56_6, wt_56_7, wt_56_8, wt_56_13, wt_56_14, wt_56_15, wt_56_16, wt_56_18, wt_56_21, wt_56_22, wt_56_23, wt_56_24, wt_56_25, wt_56_26, wt_56_27, wt_56_44, wt_56_45, wt_56_46, wt_56_47, wt_56_48, wt_56_49, wt_56_50, wt_56_51, wt_56_52, wt_56_53, wl_57, wl_58, wl_59, wl_60, wl_61, wl_62, wl_63, wl_64, wl_65, wl_66, wl_67, wl_68, wl_69, wl_70, wl_71, wl_72, wl_73, wl_74, wl_75, wl_76, wl_77, wl_78, wl_79, wl_80, wl_81, wl_82, eN, y1, show ¬ (1 : Int32) = 0 by decide, if_false, eB, y2, c1, nI_clamp (show k1 < 2 ^ 31 by omega)]
    rw [by_get (a := 20) (by decide +kernel) (by decide +kernel) c1 hk1 c3, if_neg (nI_pos (by omega)), if_neg (nI_ge hk1 (by omega)), if_neg (nI_ge (by omega) (by decide))]
  · unfold f_RM_alter lt
    simp only [wt_0_1, wt_0_2, wt_0_3, wt_0_4, wt_0_5, wt_1_0, wt_1_1, wt_1_2, wt_1_3, wt_1_4, wt_2_0, wl_3, wt_4_0, wl_5, wt_6_0, wl_7, wt_8_0, wl_9, wt_10_0, wt_10_1, wt_10_2, wt_11_0, wl_12, wt_13_0, wl_14, wt_15_0, wl_16, wt_17_0, wl_18, wt_19_0, wl_20, wt_21_0, wt_21_1, wt_21_2, wt_21_3, wt_22_0, wt_22_1, wt_22_2, wt_23_0, wl_24, wt_25_0, wl_26, wt_27_0, wl_28, wt_29_0, wt_30_0, wt_30_1, wt_30_2, wt_30_3, wt_30_4, wt_30_5, wt_31_0, wt_31_1, wt_31_2, wt_31_3, wt_31_4, wt_32_0, wl_33, wt_34_0, wl_35, wt_36_0, wl_37, wt_38_0, wl_39, wt_40_0, wt_40_1, wt_40_2, wt_41_0, wl_42, wt_43_0, wl_44, wt_45_0, wl_46, wt_48_0, wt_48_1, wt_49_0, wt_49_1, wt_49_2, wt_50_0, wl_51, wt_52_0, wl_53, wt_54_0, wl_55, wt_56_6, wt_56_7, wt_56_8, wt_56_13, wt_56_14, wt_56_15, wt_56_16, wt_56_18, wt_56_21, wt_56_22, wt_56_23, wt_56_24, wt_56_25, wt_56_26, wt_56_27, wt_56_44, wt_56_45, wt_56_46, wt_56_47, wt_56_48, wt_56_49, wt_56_50, wt_56_51, wt_56_52, wt_56_53, wl_57, wl_58, wl_59, wl_60, wl_61, wl_62, wl_63, wl_64, wl_65, wl_66, wl_67, wl_68, wl_69, wl_70, wl_71, wl_72, wl_73, wl_74, wl_75, wl_76, wl_77, wl_78, wl_79, wl_80, wl_81, wl_82, eM, y1, eC, y2, if_false, show ¬ (1 : Int32) = 0 by decide]
    simp only [mput_app, and_self, if_true, show (0 : Int32) ≤ 0 by decide, Nat.reduceEqDiff, if_false, inb_nI (show k1 < 6000 by omega) (by decide), nI_clamp (show k1 < 2 ^ 31 by omega), false_and]
    rw [c4 k1 (by omega)]
  · exact fun k hk => by simp only [mput_cell (show ¬ k = 20 by omega)]
  · exact fun k hk => by simp only [mput_cell (show ¬ k = 56 by omega), mput_cell (show ¬ k = 64 by omega)]
  · refine H.came (fun k hk => by simp only [mput_cell (show ¬ k = 20 by omega)]) (fun j h1 h2 => by simp [mput_app, h1]) (fun k h1 h2 => by simp only [mput_cell (show ¬ k = 56 by omega), mput_cell h2]) (m := m) ?_
    unfold RCa
    simp only [mput_row, mput_cell, Nat.reduceEqDiff, not_false_eq_true]
    exact ⟨c1, by simpa [upd] using c2, c3, eqn_upd c4, bnd_upd c5 (by omega)⟩
  · simp [mput_app]
set_option maxRecDepth 100000 in
set_option maxHeartbeats 4000000 in
theorem o_told : O_told Inv := by
  intro σ p1 hI
  obtain ⟨⟨t, t1, t2, t3⟩, ⟨w, h, b, c, nn, rs, st, rt, hPic⟩, ⟨n, w1, w2, w3, w4, w5⟩, ⟨m, c1, c2, c3, c4, c5⟩, ⟨a1, a2, a3, a4, a5, a6⟩⟩ := id hI
  obtain ⟨⟨s1, s2, s3, s4⟩, ⟨r1, r2, r3, r4⟩, ⟨n1, n2, n3, n4⟩, hd, hrest⟩ := id hPic
  have e2 : (f_RM_told 56 p1 σ).2 = mput σ 56 1 0 := by
    unfold f_RM_told lt
    repeat' split
    all_goals rfl
  refine ⟨?_, ?_⟩
  · unfold f_LF_told f_RM_told f_NO_count f_BY_size f_FA_number lt
    simp only [wt_0_1, wt_0_2, wt_0_3, wt_0_4, wt_0_5, wt_1_0, wt_1_1, wt_1_2, wt_1_3, wt_1_4, wt_2_0, wl_3, wt_4_0, wl_5, wt_6_0, wl_7, wt_8_0, wl_9, wt_10_0, wt_10_1, wt_10_2, wt_11_0, wl_12, wt_13_0, wl_14, wt_15_0, wl_16, wt_17_0, wl_18, wt_19_0, wl_20, wt_21_0, wt_21_1, wt_21_2, wt_21_3, wt_22_0, wt_22_1, wt_22_2, wt_23_0, wl_24, wt_25_0, wl_26, wt_27_0, wl_28, wt_29_0, wt_30_0, wt_30_1, wt_30_2, wt_30_3, wt_30_4, wt_30_5, wt_31_0, wt_31_1, wt_31_2, wt_31_3, wt_31_4, wt_32_0, wl_33, wt_34_0, wl_35, wt_36_0, wl_37, wt_38_0, wl_39, wt_40_0, wt_40_1, wt_40_2, wt_41_0, wl_42, wt_43_0, wl_44, wt_45_0, wl_46, wt_48_0, wt_48_1, wt_49_0, wt_49_1, wt_49_2, wt_50_0, wl_51, wt_52_0, wl_53, wt_54_0, wl_55, wt_56_6, wt_56_7, wt_56_8, wt_56_13, wt_56_14, wt_56_15, wt_56_16, wt_56_18, wt_56_21, wt_56_22, wt_56_23, wt_56_24, wt_56_25, wt_56_26, wt_56_27, wt_56_44, wt_56_45, wt_56_46, wt_56_47, wt_56_48, wt_56_49, wt_56_50, wt_56_51, wt_56_52, wt_56_53, wl_57, wl_58, wl_59, wl_60, wl_61, wl_62, wl_63, wl_64, wl_65, wl_66, wl_67, wl_68, wl_69, wl_70, wl_71, wl_72, wl_73, wl_74, wl_75, wl_76, wl_77, wl_78, wl_79, wl_80, wl_81, wl_82, mput_app, Nat.reduceEqDiff, and_false, if_false, t1, t2, s4, r4, n1, n2, w1, w2, c1, c2, a3, a4, a5]
    have e9 : (if nI c = 0 then (0 : Int32) else nI nn) = nI nn := by
      by_cases hc : c = 0
      · rw [n4 hc, hc]; rfl
      · rw [if_neg (nI_c0 hc (by omega))]
    rw [e9]
    by_cases e0 : p1 = 0
    · simp [e0]
    by_cases e1 : p1 = 1
    · simp [e1]
    by_cases e2 : p1 = 2
    · simp [e2]
    by_cases e3 : p1 = 3
    · simp [e3]
    by_cases e4 : p1 = 4
    · simp [e4]
    by_cases e5 : p1 = 5
    · simp [e5]
    by_cases e6 : p1 = 6
    · simp [e6]
    by_cases e7 : p1 = 7
    · simp [e7]
    simp [e0, e1, e2, e3, e4, e5, e6, e7]
  · rw [e2]
    exact (Rel.thr (v := 0) hI).congr (fun k hk => mput_cell (by omega)) (fun _ _ _ => rfl)
set_option maxRecDepth 100000 in
set_option maxHeartbeats 4000000 in
theorem o_drop : O_drop Inv := by
  intro σ hI
  obtain ⟨m, c1, c2, c3, c4, c5⟩ := id hI.2.2.2.1
  have e : f_RM_drop 56 (f_LF_drop 0 σ) = mput (mput (mput σ 19 1 0) 56 1 0) 56 19 0 := by
    unfold f_RM_drop f_LF_drop f_BY_clear lt
    simp only [wt_0_1, wt_0_2, wt_0_3, wt_0_4, wt_0_5, wt_1_0, wt_1_1, wt_1_2, wt_1_3, wt_1_4, wt_2_0, wl_3, wt_4_0, wl_5, wt_6_0, wl_7, wt_8_0, wl_9, wt_10_0, wt_10_1, wt_10_2, wt_11_0, wl_12, wt_13_0, wl_14, wt_15_0, wl_16, wt_17_0, wl_18, wt_19_0, wl_20, wt_21_0, wt_21_1, wt_21_2, wt_21_3, wt_22_0, wt_22_1, wt_22_2, wt_23_0, wl_24, wt_25_0, wl_26, wt_27_0, wl_28, wt_29_0, wt_30_0, wt_30_1, wt_30_2, wt_30_3, wt_30_4, wt_30_5, wt_31_0, wt_31_1, wt_31_2, wt_31_3, wt_31_4, wt_32_0, wl_33, wt_34_0, wl_35, wt_36_0, wl_37, wt_38_0, wl_39, wt_40_0, wt_40_1, wt_40_2, wt_41_0, wl_42, wt_43_0, wl_44, wt_45_0, wl_46, wt_48_0, wt_48_1, wt_49_0, wt_49_1, wt_49_2, wt_50_0, wl_51, wt_52_0, wl_53, wt_54_0, wl_55, wt_56_6, wt_56_7, wt_56_8, wt_56_13, wt_56_14, wt_56_15, wt_56_16, wt_56_18, wt_56_21, wt_56_22, wt_56_23, wt_56_24, wt_56_25, wt_56_26, wt_56_27, wt_56_44, wt_56_45, wt_56_46, wt_56_47, wt_56_48, wt_56_49, wt_56_50, wt_56_51, wt_56_52, wt_56_53, wl_57, wl_58, wl_59, wl_60, wl_61, wl_62, wl_63, wl_64, wl_65, wl_66, wl_67, wl_68, wl_69, wl_70, wl_71, wl_72, wl_73, wl_74, wl_75, wl_76, wl_77, wl_78, wl_79, wl_80, wl_81, wl_82]
  rw [e]
  have H2 : Rel (mput σ 19 1 0) (mput (mput σ 56 1 0) 56 19 0) := by
    refine Rel.came hI (fun k hk => mput_cell (by omega)) (fun j h1 h2 => by simp [mput_app, h1, h2]) (fun k h1 h2 => by simp only [mput_cell (show ¬ k = 56 by omega)]) (m := 0) ?_
    unfold RCa
    simp only [mput_row, mput_cell, Nat.reduceEqDiff, not_false_eq_true]
    exact ⟨by simp [upd]; rfl, by simp [upd]; rfl, by omega, c4, c5⟩
  refine H2.congr (fun k hk => ?_) (fun k h1 h2 => ?_)
  · simp only [mput_cell (show ¬ k = 56 by omega)]
  · funext i
    by_cases hk : k = 56
    · subst hk; simp [mput_app]
    · simp [mput_app, hk, show ¬ k = 19 by omega]
