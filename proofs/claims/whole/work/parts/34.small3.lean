/-! what was read: found, noteAt, at -/
set_option maxRecDepth 100000 in
set_option maxHeartbeats 4000000 in
theorem owed_of3 {cds : List (Nat × Int32)} {F : Int32 ⊕ Nat} {σ : Mem} {ref : Mem → Option (Int32 × Mem)} (hI : Inv σ) (h : ∀ τ, Rel σ τ → FrC σ σ ∧ ∃ r τ1, ref τ = some (r, τ1) ∧ FrR τ τ1 ∧ Rel σ τ1 ∧ Ans cds F (τ1 56 1) r) :
    ∃ k σ2 q, HRes cds (xrI F σ) k σ2 ∧ ref σ2 = some q ∧ q.2 56 1 = k ∧ (k = 0 → q.2 82 0 = q.1) ∧ Inv q.2 := by
  have h9 := owed_of2 (F := (F, σ)) (cds := cds) (ref := ref) hI h
  have e : xrIM (F, σ) = xrI F σ := by cases F <;> rfl
  rw [e] at h9
  exact h9
set_option maxRecDepth 100000 in
set_option maxHeartbeats 4000000 in
theorem o_found : O_found Inv := by
  intro σ p1 hI
  refine owed_of3 hI (fun τ H => ?_)
  obtain ⟨-, -, -, -, ⟨a1, a2, a3, a4, a5, a6⟩⟩ := id H
  by_cases h0 : σ 30 7 = 0
  · refine fin_thr (F := (f_LF_found 0 p1 σ, σ)) (n := 1) (k := 1) H ?_ ?_ (by decide) (by decide)
    · unfold f_LF_found f_LF_wantReading xcase
      simp only [wt_0_1, wt_0_2, wt_0_3, wt_0_4, wt_0_5, wt_1_0, wt_1_1, wt_1_2, wt_1_3, wt_1_4, wt_2_0, wl_3, wt_4_0, wl_5, wt_6_0, wl_7, wt_8_0, wl_9, wt_10_0, wt_10_1, wt_10_2, wt_11_0, wl_12, wt_13_0, wl_14, wt_15_0, wl_16, wt_17_0, wl_18, wt_19_0, wl_20, wt_21_0, wt_21_1, wt_21_2, wt_21_3, wt_22_0, wt_22_1, wt_22_2, wt_23_0, wl_24, wt_25_0, wl_26, wt_27_0, wl_28, wt_29_0, wt_30_0, wt_30_1, wt_30_2, wt_30_3, wt_30_4, wt_30_5, wt_31_0, wt_31_1, wt_31_2, wt_31_3, wt_31_4, wt_32_0, wl_33, wt_34_0, wl_35, wt_36_0, wl_37, wt_38_0, wl_39, wt_40_0, wt_40_1, wt_40_2, wt_41_0, wl_42, wt_43_0, wl_44, wt_45_0, wl_46, wt_48_0, wt_48_1, wt_49_0, wt_49_1, wt_49_2, wt_50_0, wl_51, wt_52_0, wl_53, wt_54_0, wl_55, wt_56_6, wt_56_7, wt_56_8, wt_56_13, wt_56_14, wt_56_15, wt_56_16, wt_56_18, wt_56_21, wt_56_22, wt_56_23, wt_56_24, wt_56_25, wt_56_26, wt_56_27, wt_56_44, wt_56_45, wt_56_46, wt_56_47, wt_56_48, wt_56_49, wt_56_50, wt_56_51, wt_56_52, wt_56_53, wl_57, wl_58, wl_59, wl_60, wl_61, wl_62, wl_63, wl_64, wl_65, wl_66, wl_67, wl_68, wl_69, wl_70, wl_71, wl_72, wl_73, wl_74, wl_75, wl_76, wl_77, wl_78, wl_79, wl_80, wl_81, wl_82, h0, if_true]
    · unfold f_RM_found lt
      simp only [← a1, h0, if_true, mput_app, and_self]
      rw [if_neg (by decide)]
  obtain ⟨w, h, b, c, nn, ⟨s1, s2, s3, s4⟩, ⟨r1, r2, r3, r4⟩, hd, ⟨q1, q2, q3, q4, q5⟩, ⟨m1, m2, m3⟩, -⟩ := a6.resolve_left h0
  have eR : f_RM_found 56 p1 τ = if inI p1 10 = 0 then some (-1, mput τ 56 1 0) else if inb p1 10 = true then some (τ 65 p1.toNatClampNeg, mput τ 56 1 0) else none := by
    have e9 : ∀ τ2, f_RM_isIn p1 (0 : Int32) (9 : Int32) τ2 = inI p1 10 := fun τ2 => isInN (c := 9) (by decide)
    unfold f_RM_found lt
    simp only [wt_0_1, wt_0_2, wt_0_3, wt_0_4, wt_0_5, wt_1_0, wt_1_1, wt_1_2, wt_1_3, wt_1_4, wt_2_0, wl_3, wt_4_0, wl_5, wt_6_0, wl_7, wt_8_0, wl_9, wt_10_0, wt_10_1, wt_10_2, wt_11_0, wl_12, wt_13_0, wl_14, wt_15_0, wl_16, wt_17_0, wl_18, wt_19_0, wl_20, wt_21_0, wt_21_1, wt_21_2, wt_21_3, wt_22_0, wt_22_1, wt_22_2, wt_23_0, wl_24, wt_25_0, wl_26, wt_27_0, wl_28, wt_29_0, wt_30_0, wt_30_1, wt_30_2, wt_30_3, wt_30_4, wt_30_5, wt_31_0, wt_31_1, wt_31_2, wt_31_3, wt_31_4, wt_32_0, wl_33, wt_34_0, wl_35, wt_36_0, wl_37, wt_38_0, wl_39, wt_40_0, wt_40_1, wt_40_2, wt_41_0, wl_42, wt_43_0, wl_44, wt_45_0, wl_46, wt_48_0, wt_48_1, wt_49_0, wt_49_1, wt_49_2, wt_50_0, wl_51, wt_52_0, wl_53, wt_54_0, wl_55, wt_56_6, wt_56_7, wt_56_8, wt_56_13, wt_56_14, wt_56_15, wt_56_16, wt_56_18, wt_56_21, wt_56_22, wt_56_23, wt_56_24, wt_56_25, wt_56_26, wt_56_27, wt_56_44, wt_56_45, wt_56_46, wt_56_47, wt_56_48, wt_56_49, wt_56_50, wt_56_51, wt_56_52, wt_56_53, wl_57, wl_58, wl_59, wl_60, wl_61, wl_62, wl_63, wl_64, wl_65, wl_66, wl_67, wl_68, wl_69, wl_70, wl_71, wl_72, wl_73, wl_74, wl_75, wl_76, wl_77, wl_78, wl_79, wl_80, wl_81, wl_82, ← a1, h0, if_false, mput_app, and_self, if_true, show (0 : Int32) ≤ 0 by decide, e9, Nat.reduceEqDiff, false_and]
  have eF : f_LF_found 0 p1 σ = .inl (if p1 = 0 then nI w else if p1 = 1 then nI h else if p1 = 2 then nI b else if p1 = 3 then nI c else if p1 = 4 then τ 65 4 else if p1 = 5 then τ 65 5 else if p1 = 6 then τ 65 6 else if p1 = 7 then τ 65 7 else if p1 = 8 then τ 65 8 else if p1 = 9 then nI nn else -1) := by
    unfold f_LF_found f_LF_wantReading f_NO_count xcase
    rw [show (0 : Int32) = nI 0 from rfl, show (1 : Int32) = nI 1 from rfl, show (2 : Int32) = nI 2 from rfl]
    simp only [wt_0_1, wt_0_2, wt_0_3, wt_0_4, wt_0_5, wt_1_0, wt_1_1, wt_1_2, wt_1_3, wt_1_4, wt_2_0, wl_3, wt_4_0, wl_5, wt_6_0, wl_7, wt_8_0, wl_9, wt_10_0, wt_10_1, wt_10_2, wt_11_0, wl_12, wt_13_0, wl_14, wt_15_0, wl_16, wt_17_0, wl_18, wt_19_0, wl_20, wt_21_0, wt_21_1, wt_21_2, wt_21_3, wt_22_0, wt_22_1, wt_22_2, wt_23_0, wl_24, wt_25_0, wl_26, wt_27_0, wl_28, wt_29_0, wt_30_0, wt_30_1, wt_30_2, wt_30_3, wt_30_4, wt_30_5, wt_31_0, wt_31_1, wt_31_2, wt_31_3, wt_31_4, wt_32_0, wl_33, wt_34_0, wl_35, wt_36_0, wl_37, wt_38_0, wl_39, wt_40_0, wt_40_1, wt_40_2, wt_41_0, wl_42, wt_43_0, wl_44, wt_45_0, wl_46, wt_48_0, wt_48_1, wt_49_0, wt_49_1, wt_49_2, wt_50_0, wl_51, wt_52_0, wl_53, wt_54_0, wl_55, wt_56_6, wt_56_7, wt_56_8, wt_56_13, wt_56_14, wt_56_15, wt_56_16, wt_56_18, wt_56_21, wt_56_22, wt_56_23, wt_56_24, wt_56_25, wt_56_26, wt_56_27, wt_56_44, wt_56_45, wt_56_46, wt_56_47, wt_56_48, wt_56_49, wt_56_50, wt_56_51, wt_56_52, wt_56_53, wl_57, wl_58, wl_59, wl_60, wl_61, wl_62, wl_63, wl_64, wl_65, wl_66, wl_67, wl_68, wl_69, wl_70, wl_71, wl_72, wl_73, wl_74, wl_75, wl_76, wl_77, wl_78, wl_79, wl_80, wl_81, wl_82]
    rw [ro_get (k := 34) (a := 35) (n := 3) (i := 0) (by decide +kernel) (by decide +kernel) (by omega) (by decide), ro_get (k := 34) (a := 35) (n := 3) (i := 1) (by decide +kernel) (by decide +kernel) (by omega) (by decide), ro_get (k := 34) (a := 35) (n := 3) (i := 2) (by decide +kernel) (by decide +kernel) (by omega) (by decide), s1, s2, s3, s4, q1, q2, q3, q4, q5, m1]
    simp only [show nI 0 = (0 : Int32) from rfl, show nI 1 = (1 : Int32) from rfl, show nI 2 = (2 : Int32) from rfl, h0, if_false]
    repeat' split
    all_goals rfl
  rcases inI_cases p1 (c := 10) (by decide) with h1 | ⟨k1, hk1, rfl⟩
  · refine fin_ok (F := (f_LF_found 0 p1 σ, σ)) (v := -1) (σ1 := σ) (τ1 := mput τ 56 1 0) ?_ (by rw [eR]; simp [h1]) (fun _ _ => rfl) FrR.thr H.thr (by simp [mput_app])
    rw [eF]
    have ne : ∀ j : Nat, j < 10 → ¬ p1 = nI j := by
      intro j hj e
      rw [e, inI_yes hj (by decide)] at h1
      exact absurd h1 (by decide)
    have n0 : ¬ p1 = 0 := ne 0 (by decide)
    have n1 : ¬ p1 = 1 := ne 1 (by decide)
    have n2 : ¬ p1 = 2 := ne 2 (by decide)
    have n3 : ¬ p1 = 3 := ne 3 (by decide)
    have n4 : ¬ p1 = 4 := ne 4 (by decide)
    have n5 : ¬ p1 = 5 := ne 5 (by decide)
    have n6 : ¬ p1 = 6 := ne 6 (by decide)
    have n7 : ¬ p1 = 7 := ne 7 (by decide)
    have n8 : ¬ p1 = 8 := ne 8 (by decide)
    have n9 : ¬ p1 = 9 := ne 9 (by decide)
    simp only [n0, n1, n2, n3, n4, n5, n6, n7, n8, n9, if_false]
  · refine fin_ok (F := (f_LF_found 0 (nI k1) σ, σ)) (v := τ 65 k1) (σ1 := σ) (τ1 := mput τ 56 1 0) ?_ ?_ (fun _ _ => rfl) FrR.thr H.thr (by simp [mput_app])
    · rw [eF]
      have hc : k1 = 0 ∨ k1 = 1 ∨ k1 = 2 ∨ k1 = 3 ∨ k1 = 4 ∨ k1 = 5 ∨ k1 = 6 ∨ k1 = 7 ∨ k1 = 8 ∨ k1 = 9 := by omega
      rcases hc with rfl | rfl | rfl | rfl | rfl | rfl | rfl | rfl | rfl | rfl
      · rw [r1]; rfl
      · rw [r2]; rfl
      · rw [r3]; rfl
      · rw [r4]; rfl
      · rfl
      · rfl
      · rfl
      · rfl
      · rfl
      · rw [m2]; rfl
    · rw [eR, inI_yes hk1 (by decide), inb_nI hk1 (by decide), nI_clamp (by omega)]
      simp
set_option maxRecDepth 100000 in
set_option maxHeartbeats 4000000 in
theorem o_noteAt : O_noteAt Inv := by
  intro σ p1 p2 hI
  refine owed_of3 hI (fun τ H => ?_)
  obtain ⟨-, -, -, -, ⟨a1, a2, a3, a4, a5, a6⟩⟩ := id H
  by_cases h0 : σ 30 7 = 0
  · refine fin_thr (F := (f_LF_noteAt 0 p1 p2 σ, σ)) (n := 1) (k := 1) H ?_ ?_ (by decide) (by decide)
    · unfold f_LF_noteAt f_LF_wantReading xcase
      simp only [wt_0_1, wt_0_2, wt_0_3, wt_0_4, wt_0_5, wt_1_0, wt_1_1, wt_1_2, wt_1_3, wt_1_4, wt_2_0, wl_3, wt_4_0, wl_5, wt_6_0, wl_7, wt_8_0, wl_9, wt_10_0, wt_10_1, wt_10_2, wt_11_0, wl_12, wt_13_0, wl_14, wt_15_0, wl_16, wt_17_0, wl_18, wt_19_0, wl_20, wt_21_0, wt_21_1, wt_21_2, wt_21_3, wt_22_0, wt_22_1, wt_22_2, wt_23_0, wl_24, wt_25_0, wl_26, wt_27_0, wl_28, wt_29_0, wt_30_0, wt_30_1, wt_30_2, wt_30_3, wt_30_4, wt_30_5, wt_31_0, wt_31_1, wt_31_2, wt_31_3, wt_31_4, wt_32_0, wl_33, wt_34_0, wl_35, wt_36_0, wl_37, wt_38_0, wl_39, wt_40_0, wt_40_1, wt_40_2, wt_41_0, wl_42, wt_43_0, wl_44, wt_45_0, wl_46, wt_48_0, wt_48_1, wt_49_0, wt_49_1, wt_49_2, wt_50_0, wl_51, wt_52_0, wl_53, wt_54_0, wl_55, wt_56_6, wt_56_7, wt_56_8, wt_56_13, wt_56_14, wt_56_15, wt_56_16, wt_56_18, wt_56_21, wt_56_22, wt_56_23, wt_56_24, wt_56_25, wt_56_26, wt_56_27, wt_56_44, wt_56_45, wt_56_46, wt_56_47, wt_56_48, wt_56_49, wt_56_50, wt_56_51, wt_56_52, wt_56_53, wl_57, wl_58, wl_59, wl_60, wl_61, wl_62, wl_63, wl_64, wl_65, wl_66, wl_67, wl_68, wl_69, wl_70, wl_71, wl_72, wl_73, wl_74, wl_75, wl_76, wl_77, wl_78, wl_79, wl_80, wl_81, wl_82, h0, if_true]
    · unfold f_RM_noteAt lt
      simp only [← a1, h0, if_true, mput_app, and_self]
      rw [if_neg (by decide)]
  obtain ⟨w, h, b, c, nn, ⟨s1, s2, s3, s4⟩, ⟨r1, r2, r3, r4⟩, hd, ⟨q1, q2, q3, q4, q5⟩, ⟨m1, m2, m3⟩, hsam, htb, htn, hno⟩ := a6.resolve_left h0
  have eN : f_NO_has 40 p1 σ = inI p1 nn := by unfold f_NO_has inI; rw [m1]
  have eM : ∀ τ2, f_RM_isIn p1 (0 : Int32) (nI nn - 1) τ2 = inI p1 nn := fun τ2 => isIn0 (by omega)
  rcases inI_cases p1 (c := nn) (by omega) with h1 | ⟨k1, hk1, rfl⟩
  · refine fin_thr (F := (f_LF_noteAt 0 p1 p2 σ, σ)) (n := 2) (k := 2) H ?_ ?_ (by decide) (by decide)
    · unfold f_LF_noteAt f_LF_wantReading xcase
      simp only [wt_0_1, wt_0_2, wt_0_3, wt_0_4, wt_0_5, wt_1_0, wt_1_1, wt_1_2, wt_1_3, wt_1_4, wt_2_0, wl_3, wt_4_0, wl_5, wt_6_0, wl_7, wt_8_0, wl_9, wt_10_0, wt_10_1, wt_10_2, wt_11_0, wl_12, wt_13_0, wl_14, wt_15_0, wl_16, wt_17_0, wl_18, wt_19_0, wl_20, wt_21_0, wt_21_1, wt_21_2, wt_21_3, wt_22_0, wt_22_1, wt_22_2, wt_23_0, wl_24, wt_25_0, wl_26, wt_27_0, wl_28, wt_29_0, wt_30_0, wt_30_1, wt_30_2, wt_30_3, wt_30_4, wt_30_5, wt_31_0, wt_31_1, wt_31_2, wt_31_3, wt_31_4, wt_32_0, wl_33, wt_34_0, wl_35, wt_36_0, wl_37, wt_38_0, wl_39, wt_40_0, wt_40_1, wt_40_2, wt_41_0, wl_42, wt_43_0, wl_44, wt_45_0, wl_46, wt_48_0, wt_48_1, wt_49_0, wt_49_1, wt_49_2, wt_50_0, wl_51, wt_52_0, wl_53, wt_54_0, wl_55, wt_56_6, wt_56_7, wt_56_8, wt_56_13, wt_56_14, wt_56_15, wt_56_16, wt_56_18, wt_56_21, wt_56_22, wt_56_23, wt_56_24, wt_56_25, wt_56_26, wt_56_27, wt_56_44, wt_56_45, wt_56_46, wt_56_47, wt_56_48, wt_56_49, wt_56_50, wt_56_51, wt_56_52, wt_56_53, wl_57, wl_58, wl_59, wl_60, wl_61, wl_62, wl_63, wl_64, wl_65, wl_66, wl_67, wl_68, wl_69, wl_70, wl_71, wl_72, wl_73, wl_74, wl_75, wl_76, wl_77, wl_78, wl_79, wl_80, wl_81, wl_82, h0, if_false, eN, h1, if_true]
    · unfold f_RM_noteAt lt
      simp only [wt_0_1, wt_0_2, wt_0_3, wt_0_4, wt_0_5, wt_1_0, wt_1_1, wt_1_2, wt_1_3, wt_1_4, wt_2_0, wl_3, wt_4_0, wl_5, wt_6_0, wl_7, wt_8_0, wl_9, wt_10_0, wt_10_1, wt_10_2, wt_11_0, wl_12, wt_13_0, wl_14, wt_15_0, wl_16, wt_17_0, wl_18, wt_19_0, wl_20, wt_21_0, wt_21_1, wt_21_2, wt_21_3, wt_22_0, wt_22_1, wt_22_2, wt_23_0, wl_24, wt_25_0, wl_26, wt_27_0, wl_28, wt_29_0, wt_30_0, wt_30_1, wt_30_2, wt_30_3, wt_30_4, wt_30_5, wt_31_0, wt_31_1, wt_31_2, wt_31_3, wt_31_4, wt_32_0, wl_33, wt_34_0, wl_35, wt_36_0, wl_37, wt_38_0, wl_39, wt_40_0, wt_40_1, wt_40_2, wt_41_0, wl_42, wt_43_0, wl_44, wt_45_0, wl_46, wt_48_0, wt_48_1, wt_49_0, wt_49_1, wt_49_2, wt_50_0, wl_51, wt_52_0, wl_53, wt_54_0, wl_55, wt_56_6, wt_56_7, wt_56_8, wt_56_13, wt_56_14, wt_56_15, wt_56_16, wt_56_18, wt_56_21, wt_56_22, wt_56_23, wt_56_24, wt_56_25, wt_56_26, wt_56_27, wt_56_44, wt_56_45, wt_56_46, wt_56_47, wt_56_48, wt_56_49, wt_56_50, wt_56_51, wt_56_52, wt_56_53, wl_57, wl_58, wl_59, wl_60, wl_61, wl_62, wl_63, wl_64, wl_65, wl_66, wl_67, wl_68, wl_69, wl_70, wl_71, wl_72, wl_73, wl_74, wl_75, wl_76, wl_77, wl_78, wl_79, wl_80, wl_81, wl_82, ← a1, h0, if_false, show inb (9 : Int32) 10 = true by decide +kernel, show (9 : Int32).toNatClampNeg = 9 from rfl, m2, eM, h1, if_true, mput_app, and_self]
      rw [if_neg (by decide)]
  obtain ⟨e1, z, hz, z1, z2, hby⟩ := hno k1 hk1
  have y1 : inI (nI k1) nn = 1 := inI_yes hk1 (by omega)
  have eS : f_NO_sizeOf 40 (nI k1) σ = nI z := by
    unfold f_NO_sizeOf
    rw [ro_get (a := 44) (n := 6) (by decide +kernel) (by decide +kernel) (by omega) (by decide), z1]
  have eK : f_NO_kindOf 40 (nI k1) σ = σ 42 k1 := by
    unfold f_NO_kindOf
    rw [ro_get (a := 42) (n := 6) (by decide +kernel) (by decide +kernel) (by omega) (by decide)]
  have ib : inb (nI k1) 6 = true := inb_nI (by omega) (by decide)
  have cl : (nI k1).toNatClampNeg = k1 := nI_clamp (by omega)
  have bad : (p2 < -1 ∨ ¬ p2 < nI z) → FrC σ σ ∧ ∃ r τ1, f_RM_noteAt 56 (nI k1) p2 τ = some (r, τ1) ∧ FrR τ τ1 ∧ Rel σ τ1 ∧ Ans [(1, 1), (2, 2)] (f_LF_noteAt 0 (nI k1) p2 σ) (τ1 56 1) r := by
    intro hb
    have e3 : ∀ τ2, f_RM_isIn p2 (-1 : Int32) (nI z - 1) τ2 = 0 := by
      intro τ2
      unfold f_RM_isIn
      by_cases z3 : p2 < -1
      · rw [if_pos z3]
      · rw [if_neg z3, if_pos]
        have := Int32.not_lt.mp (hb.resolve_left z3)
        exact (pred_lt (by omega)).mpr this
    refine fin_thr (F := (f_LF_noteAt 0 (nI k1) p2 σ, σ)) (n := 2) (k := 2) H ?_ ?_ (by decide) (by decide)
    · unfold f_LF_noteAt f_LF_wantReading xcase
      simp only [wt_0_1, wt_0_2, wt_0_3, wt_0_4, wt_0_5, wt_1_0, wt_1_1, wt_1_2, wt_1_3, wt_1_4, wt_2_0, wl_3, wt_4_0, wl_5, wt_6_0, wl_7, wt_8_0, wl_9, wt_10_0, wt_10_1, wt_10_2, wt_11_0, wl_12, wt_13_0, wl_14, wt_15_0, wl_16, wt_17_0, wl_18, wt_19_0, wl_20, wt_21_0, wt_21_1, wt_21_2, wt_21_3, wt_22_0, wt_22_1, wt_22_2, wt_23_0, wl_24, wt_25_0, wl_26, wt_27_0, wl_28, wt_29_0, wt_30_0, wt_30_1, wt_30_2, wt_30_3, wt_30_4, wt_30_5, wt_31_0, wt_31_1, wt_31_2, wt_31_3, wt_31_4, wt_32_0, wl_33, wt_34_0, wl_35, wt_36_0, wl_37, wt_38_0, wl_39, wt_40_0, wt_40_1, wt_40_2, wt_41_0, wl_42, wt_43_0, wl_44, wt_45_0, wl_46, wt_48_0, wt_48_1, wt_49_0, wt_49_1, wt_49_2, wt_50_0, wl_51, wt_52_0, wl_53, wt_54_0, wl_55, wt_56_6, wt_56_7, wt_56_8, wt_56_13, wt_56_14, wt_56_15, wt_56_16, wt_56_18, wt_56_21, wt_56_22, wt_56_23, wt_56_24, wt_56_25, wt_56_26, wt_56_27, wt_56_44, wt_56_45, wt_56_46, wt_56_47, wt_56_48, wt_56_49, wt_56_50, wt_56_51, wt_56_52, wt_56_53, wl_57, wl_58, wl_59, wl_60, wl_61, wl_62, wl_63, wl_64, wl_65, wl_66, wl_67, wl_68, wl_69, wl_70, wl_71, wl_72, wl_73, wl_74, wl_75, wl_76, wl_77, wl_78, wl_79, wl_80, wl_81, wl_82, h0, if_false, eN, y1, show ¬ (1 : Int32) = 0 by decide, eS]
      by_cases z3 : p2 < -1
      · simp only [z3, if_true]
      · simp only [z3, hb.resolve_left z3, if_false]
    · unfold f_RM_noteAt lt
      simp only [wt_0_1, wt_0_2, wt_0_3, wt_0_4, wt_0_5, wt_1_0, wt_1_1, wt_1_2, wt_1_3, wt_1_4, wt_2_0, wl_3, wt_4_0, wl_5, wt_6_0, wl_7, wt_8_0, wl_9, wt_10_0, wt_10_1, wt_10_2, wt_11_0, wl_12, wt_13_0, wl_14, wt_15_0, wl_16, wt_17_0, wl_18, wt_19_0, wl_20, wt_21_0, wt_21_1, wt_21_2, wt_21_3, wt_22_0, wt_22_1, wt_22_2, wt_23_0, wl_24, wt_25_0, wl_26, wt_27_0, wl_28, wt_29_0, wt_30_0, wt_30_1, wt_30_2, wt_30_3, wt_30_4, wt_30_5, wt_31_0, wt_31_1, wt_31_2, wt_31_3, wt_31_4, wt_32_0, wl_33, wt_34_0, wl_35, wt_36_0, wl_37, wt_38_0, wl_39, wt_40_0, wt_40_1, wt_40_2, wt_41_0, wl_42, wt_43_0, wl_44, wt_45_0, wl_46, wt_48_0, wt_48_1, wt_49_0, wt_49_1, wt_49_2, wt_50_0, wl_51, wt_52_0, wl_53, wt_54_0, wl_55, wt_56_6, wt_56_7, wt_56_8, wt_56_13, wt_56_14, wt_56_15, wt_56_16, wt_56_18, wt_56_21, wt_56_22, wt_56_23, wt_56_24, wt_56_25, wt_56_26, wt_56_27, wt_56_44, wt_56_45, wt_56_46, wt_56_47, wt_56_48, wt_56_49, wt_56_50, wt_56_51, wt_56_52, wt_56_53, wl_57, wl_58, wl_59, wl_60, wl_61, wl_62, wl_63, wl_64, wl_65, wl_66, wl_67, wl_68, wl_69, wl_70, wl_71, wl_72, wl_73, wl_74, wl_75, wl_76, wl_77, wl_78, wl_79, wl_80, wl_81, wl_82, ← a1, h0, if_false, show inb (9 : Int32) 10 = true by decide +kernel, show (9 : Int32).toNatClampNeg = 9 from rfl, m2, eM, y1, show ¬ (1 : Int32) = 0 by decide, ib, cl, z2, e3, if_true, mput_app, and_self]
      rw [if_neg (by decide)]
  by_cases b1 : p2 < -1
  · exact bad (Or.inl b1)
  by_cases b2n : ¬ p2 < nI z
  · exact bad (Or.inr b2n)
  have b2 : p2 < nI z := Classical.not_not.mp b2n
  have e3 : ∀ τ2, f_RM_isIn p2 (-1 : Int32) (nI z - 1) τ2 = 1 := by
    intro τ2
    unfold f_RM_isIn
    rw [if_neg b1, if_neg]
    intro z3
    exact absurd b2 (Int32.not_lt.mpr ((pred_lt (by omega)).mp z3))
  have eR : f_RM_noteAt 56 (nI k1) p2 τ = if 0 ≤ p2 then (if inb (30 * nI k1 + p2) 180 = true then some (τ 71 (30 * nI k1 + p2).toNatClampNeg, mput τ 56 1 0) else none) else some (τ 69 k1, mput τ 56 1 0) := by
    unfold f_RM_noteAt lt
    simp only [wt_0_1, wt_0_2, wt_0_3, wt_0_4, wt_0_5, wt_1_0, wt_1_1, wt_1_2, wt_1_3, wt_1_4, wt_2_0, wl_3, wt_4_0, wl_5, wt_6_0, wl_7, wt_8_0, wl_9, wt_10_0, wt_10_1, wt_10_2, wt_11_0, wl_12, wt_13_0, wl_14, wt_15_0, wl_16, wt_17_0, wl_18, wt_19_0, wl_20, wt_21_0, wt_21_1, wt_21_2, wt_21_3, wt_22_0, wt_22_1, wt_22_2, wt_23_0, wl_24, wt_25_0, wl_26, wt_27_0, wl_28, wt_29_0, wt_30_0, wt_30_1, wt_30_2, wt_30_3, wt_30_4, wt_30_5, wt_31_0, wt_31_1, wt_31_2, wt_31_3, wt_31_4, wt_32_0, wl_33, wt_34_0, wl_35, wt_36_0, wl_37, wt_38_0, wl_39, wt_40_0, wt_40_1, wt_40_2, wt_41_0, wl_42, wt_43_0, wl_44, wt_45_0, wl_46, wt_48_0, wt_48_1, wt_49_0, wt_49_1, wt_49_2, wt_50_0, wl_51, wt_52_0, wl_53, wt_54_0, wl_55, wt_56_6, wt_56_7, wt_56_8, wt_56_13, wt_56_14, wt_56_15, wt_56_16, wt_56_18, wt_56_21, wt_56_22, wt_56_23, wt_56_24, wt_56_25, wt_56_26, wt_56_27, wt_56_44, wt_56_45, wt_56_46, wt_56_47, wt_56_48, wt_56_49, wt_56_50, wt_56_51, wt_56_52, wt_56_53, wl_57, wl_58, wl_59, wl_60, wl_61, wl_62, wl_63, wl_64, wl_65, wl_66, wl_67, wl_68, wl_69, wl_70, wl_71, wl_72, wl_73, wl_74, wl_75, wl_76, wl_77, wl_78, wl_79, wl_80, wl_81, wl_82, ← a1, h0, if_false, show inb (9 : Int32) 10 = true by decide +kernel, show (9 : Int32).toNatClampNeg = 9 from rfl, m2, eM, y1, show ¬ (1 : Int32) = 0 by decide, ib, cl, z2, e3, if_true, mput_app, and_self, show (0 : Int32) ≤ 0 by decide, Nat.reduceEqDiff, false_and]
  have eF : f_LF_noteAt 0 (nI k1) p2 σ = .inl (if p2 = -1 then σ 42 k1 else f_NO_byteIn 40 (nI k1) p2 σ) := by
    unfold f_LF_noteAt f_LF_wantReading xcase
    simp only [wt_0_1, wt_0_2, wt_0_3, wt_0_4, wt_0_5, wt_1_0, wt_1_1, wt_1_2, wt_1_3, wt_1_4, wt_2_0, wl_3, wt_4_0, wl_5, wt_6_0, wl_7, wt_8_0, wl_9, wt_10_0, wt_10_1, wt_10_2, wt_11_0, wl_12, wt_13_0, wl_14, wt_15_0, wl_16, wt_17_0, wl_18, wt_19_0, wl_20, wt_21_0, wt_21_1, wt_21_2, wt_21_3, wt_22_0, wt_22_1, wt_22_2, wt_23_0, wl_24, wt_25_0, wl_26, wt_27_0, wl_28, wt_29_0, wt_30_0, wt_30_1, wt_30_2, wt_30_3, wt_30_4, wt_30_5, wt_31_0, wt_31_1, wt_31_2, wt_31_3, wt_31_4, wt_32_0, wl_33, wt_34_0, wl_35, wt_36_0, wl_37, wt_38_0, wl_39, wt_40_0, wt_40_1, wt_40_2, wt_41_0, wl_42, wt_43_0, wl_44, wt_45_0, wl_46, wt_48_0, wt_48_1, wt_49_0, wt_49_1, wt_49_2, wt_50_0, wl_51, wt_52_0, wl_53, wt_54_0, wl_55, wt_56_6, wt_56_7, wt_56_8, wt_56_13, wt_56_14, wt_56_15, wt_56_16, wt_56_18, wt_56_21, wt_56_22, wt_56_23, wt_56_24, wt_56_25, wt_56_26, wt_56_27, wt_56_44, wt_56_45, wt_56_46, wt_56_47, wt_56_48, wt_56_49, wt_56_50, wt_56_51, wt_56_52, wt_56_53, wl_57, wl_58, wl_59, wl_60, wl_61, wl_62, wl_63, wl_64, wl_65, wl_66, wl_67, wl_68, wl_69, wl_70, wl_71, wl_72, wl_73, wl_74, wl_75, wl_76, wl_77, wl_78, wl_79, wl_80, wl_81, wl_82, h0, if_false, eN, y1, show ¬ (1 : Int32) = 0 by decide, eS, b1, b2, if_true, eK]
  by_cases b3 : p2 = -1
  · subst b3
    refine fin_ok (F := (f_LF_noteAt 0 (nI k1) (-1) σ, σ)) (v := σ 42 k1) (σ1 := σ) (τ1 := mput τ 56 1 0) (by rw [eF]; simp) (by rw [eR, e1]; rfl) (fun _ _ => rfl) FrR.thr H.thr (by simp [mput_app])
  · have b4 : ¬ p2 < 0 := by
      intro z4
      (simp only [Int32.lt_iff_toInt_lt, Int32.le_iff_toInt_le, ← Int32.toInt_inj, Int32.toInt_add, Int32.toInt_sub, Int32.toInt_mul, Int32.toInt_neg, Int.bmod_def] at *; simp at *; omega)
    obtain ⟨j, hj, rfl⟩ := i32_lt b4 (Int32.not_le.mpr b2) (by omega)
    have ei : nI k1 * 30 + nI j = nI (30 * k1 + j) := by
      rw [show (30 : Int32) = nI 30 from rfl, nI_mul, nI_add]
      congr 1; omega
    have ej : 30 * nI k1 + nI j = nI (30 * k1 + j) := by
      rw [show (30 : Int32) = nI 30 from rfl, nI_mul, nI_add]
    refine fin_ok (F := (f_LF_noteAt 0 (nI k1) (nI j) σ, σ)) (v := σ 46 (30 * k1 + j)) (σ1 := σ) (τ1 := mput τ 56 1 0) ?_ ?_ (fun _ _ => rfl) FrR.thr H.thr (by simp [mput_app])
    · rw [eF, if_neg b3]
      unfold f_NO_byteIn
      rw [ei, ro_get (a := 46) (n := 180) (by decide +kernel) (by decide +kernel) (by omega) (by decide)]
    · rw [eR, if_pos (nI_pos' (by omega)), ej, inb_nI (by omega) (by decide), nI_clamp (by omega), hby j hj]
      rfl
set_option maxRecDepth 100000 in
set_option maxHeartbeats 4000000 in
theorem o_at : O_at_ Inv := by
  intro σ p1 p2 p3 p4 h4 hI
  refine owed_of3 hI (fun τ H => ?_)
  obtain ⟨-, -, -, -, ⟨a1, a2, a3, a4, a5, a6⟩⟩ := id H
  by_cases h0 : σ 30 7 = 0
  · refine fin_thr (F := (f_LF_at 0 p1 p2 p3 p4 σ, σ)) (n := 1) (k := 1) H ?_ ?_ (by decide) (by decide)
    · unfold f_LF_at f_LF_wantReading xcase
      simp only [wt_0_1, wt_0_2, wt_0_3, wt_0_4, wt_0_5, wt_1_0, wt_1_1, wt_1_2, wt_1_3, wt_1_4, wt_2_0, wl_3, wt_4_0, wl_5, wt_6_0, wl_7, wt_8_0, wl_9, wt_10_0, wt_10_1, wt_10_2, wt_11_0, wl_12, wt_13_0, wl_14, wt_15_0, wl_16, wt_17_0, wl_18, wt_19_0, wl_20, wt_21_0, wt_21_1, wt_21_2, wt_21_3, wt_22_0, wt_22_1, wt_22_2, wt_23_0, wl_24, wt_25_0, wl_26, wt_27_0, wl_28, wt_29_0, wt_30_0, wt_30_1, wt_30_2, wt_30_3, wt_30_4, wt_30_5, wt_31_0, wt_31_1, wt_31_2, wt_31_3, wt_31_4, wt_32_0, wl_33, wt_34_0, wl_35, wt_36_0, wl_37, wt_38_0, wl_39, wt_40_0, wt_40_1, wt_40_2, wt_41_0, wl_42, wt_43_0, wl_44, wt_45_0, wl_46, wt_48_0, wt_48_1, wt_49_0, wt_49_1, wt_49_2, wt_50_0, wl_51, wt_52_0, wl_53, wt_54_0, wl_55, wt_56_6, wt_56_7, wt_56_8, wt_56_13, wt_56_14, wt_56_15, wt_56_16, wt_56_18, wt_56_21, wt_56_22, wt_56_23, wt_56_24, wt_56_25, wt_56_26, wt_56_27, wt_56_44, wt_56_45, wt_56_46, wt_56_47, wt_56_48, wt_56_49, wt_56_50, wt_56_51, wt_56_52, wt_56_53, wl_57, wl_58, wl_59, wl_60, wl_61, wl_62, wl_63, wl_64, wl_65, wl_66, wl_67, wl_68, wl_69, wl_70, wl_71, wl_72, wl_73, wl_74, wl_75, wl_76, wl_77, wl_78, wl_79, wl_80, wl_81, wl_82, h0, if_true]
    · unfold f_RM_at lt
      simp only [← a1, h0, if_true, mput_app, and_self]
      rw [if_neg (by decide)]
  obtain ⟨w, h, b, c, nn, ⟨s1, s2, s3, s4⟩, ⟨r1, r2, r3, r4⟩, hd, ⟨q1, q2, q3, q4, q5⟩, ⟨m1, m2, m3⟩, hsam, htb, htn, hno⟩ := a6.resolve_left h0
  have eH : f_PI_hasSample 31 p1 p2 p3 σ = if inI p1 c = 0 then (0 : Int32) else if inI p2 w = 0 then 0 else if inI p3 h = 0 then 0 else 1 := by
    unfold f_PI_hasSample f_PI_hasComponent inI
    simp only [s1, s2, s4]
    by_cases e2 : p2 < 0 <;> by_cases e3 : nI w ≤ p2 <;> by_cases e4 : p3 < 0 <;> by_cases e5 : nI h ≤ p3 <;> simp [e2, e3, e4, e5]
  have i0 : ∀ x τ2 n, n < 2 ^ 31 → f_RM_isIn x (0 : Int32) (nI n - 1) τ2 = inI x n := fun x τ2 n hn => isIn0 hn
  have j0 : inb (0 : Int32) 10 = true := by decide +kernel
  have j1 : inb (1 : Int32) 10 = true := by decide +kernel
  have j3 : inb (3 : Int32) 10 = true := by decide +kernel
  have t0 : (0 : Int32).toNatClampNeg = 0 := rfl
  have t1 : (1 : Int32).toNatClampNeg = 1 := rfl
  have t3 : (3 : Int32).toNatClampNeg = 3 := rfl
  have bad : (if inI p1 c = 0 then (0 : Int32) else if inI p2 w = 0 then 0 else if inI p3 h = 0 then 0 else 1) = 0 → FrC σ σ ∧ ∃ r τ1, f_RM_at 56 p1 p2 p3 p4 τ = some (r, τ1) ∧ FrR τ τ1 ∧ Rel σ τ1 ∧ Ans [(1, 1), (2, 2)] (f_LF_at 0 p1 p2 p3 p4 σ) (τ1 56 1) r := by
    intro hb
    refine fin_thr (F := (f_LF_at 0 p1 p2 p3 p4 σ, σ)) (n := 2) (k := 2) H ?_ ?_ (by decide) (by decide)
    · unfold f_LF_at f_LF_wantReading xcase
      simp only [wt_0_1, wt_0_2, wt_0_3, wt_0_4, wt_0_5, wt_1_0, wt_1_1, wt_1_2, wt_1_3, wt_1_4, wt_2_0, wl_3, wt_4_0, wl_5, wt_6_0, wl_7, wt_8_0, wl_9, wt_10_0, wt_10_1, wt_10_2, wt_11_0, wl_12, wt_13_0, wl_14, wt_15_0, wl_16, wt_17_0, wl_18, wt_19_0, wl_20, wt_21_0, wt_21_1, wt_21_2, wt_21_3, wt_22_0, wt_22_1, wt_22_2, wt_23_0, wl_24, wt_25_0, wl_26, wt_27_0, wl_28, wt_29_0, wt_30_0, wt_30_1, wt_30_2, wt_30_3, wt_30_4, wt_30_5, wt_31_0, wt_31_1, wt_31_2, wt_31_3, wt_31_4, wt_32_0, wl_33, wt_34_0, wl_35, wt_36_0, wl_37, wt_38_0, wl_39, wt_40_0, wt_40_1, wt_40_2, wt_41_0, wl_42, wt_43_0, wl_44, wt_45_0, wl_46, wt_48_0, wt_48_1, wt_49_0, wt_49_1, wt_49_2, wt_50_0, wl_51, wt_52_0, wl_53, wt_54_0, wl_55, wt_56_6, wt_56_7, wt_56_8, wt_56_13, wt_56_14, wt_56_15, wt_56_16, wt_56_18, wt_56_21, wt_56_22, wt_56_23, wt_56_24, wt_56_25, wt_56_26, wt_56_27, wt_56_44, wt_56_45, wt_56_46, wt_56_47, wt_56_48, wt_56_49, wt_56_50, wt_56_51, wt_56_52, wt_56_53, wl_57, wl_58, wl_59, wl_60, wl_61, wl_62, wl_63, wl_64, wl_65, wl_66, wl_67, wl_68, wl_69, wl_70, wl_71, wl_72, wl_73, wl_74, wl_75, wl_76, wl_77, wl_78, wl_79, wl_80, wl_81, wl_82, h0, if_false, eH, hb, if_true]
    · unfold f_RM_at lt
      simp only [wt_0_1, wt_0_2, wt_0_3, wt_0_4, wt_0_5, wt_1_0, wt_1_1, wt_1_2, wt_1_3, wt_1_4, wt_2_0, wl_3, wt_4_0, wl_5, wt_6_0, wl_7, wt_8_0, wl_9, wt_10_0, wt_10_1, wt_10_2, wt_11_0, wl_12, wt_13_0, wl_14, wt_15_0, wl_16, wt_17_0, wl_18, wt_19_0, wl_20, wt_21_0, wt_21_1, wt_21_2, wt_21_3, wt_22_0, wt_22_1, wt_22_2, wt_23_0, wl_24, wt_25_0, wl_26, wt_27_0, wl_28, wt_29_0, wt_30_0, wt_30_1, wt_30_2, wt_30_3, wt_30_4, wt_30_5, wt_31_0, wt_31_1, wt_31_2, wt_31_3, wt_31_4, wt_32_0, wl_33, wt_34_0, wl_35, wt_36_0, wl_37, wt_38_0, wl_39, wt_40_0, wt_40_1, wt_40_2, wt_41_0, wl_42, wt_43_0, wl_44, wt_45_0, wl_46, wt_48_0, wt_48_1, wt_49_0, wt_49_1, wt_49_2, wt_50_0, wl_51, wt_52_0, wl_53, wt_54_0, wl_55, wt_56_6, wt_56_7, wt_56_8, wt_56_13, wt_56_14, wt_56_15, wt_56_16, wt_56_18, wt_56_21, wt_56_22, wt_56_23, wt_56_24, wt_56_25, wt_56_26, wt_56_27, wt_56_44, wt_56_45, wt_56_46, wt_56_47, wt_56_48, wt_56_49, wt_56_50, wt_56_51, wt_56_52, wt_56_53, wl_57, wl_58, wl_59, wl_60, wl_61, wl_62, wl_63, wl_64, wl_65, wl_66, wl_67, wl_68, wl_69, wl_70, wl_71, wl_72, wl_73, wl_74, wl_75, wl_76, wl_77, wl_78, wl_79, wl_80, wl_81, wl_82, ← a1, h0, if_false, j0, j1, j3, t0, t1, t3, r1, r2, r4, i0 _ _ c (by omega), i0 _ _ w (by omega), i0 _ _ h (by omega), if_true, mput_app, and_self, show ¬ (2 : Int32) ≤ 0 by decide]
      by_cases b1 : inI p1 c = 0
      · simp only [b1, if_true]
      · by_cases b2 : inI p2 w = 0
        · simp only [b1, b2, if_true, if_false]
        · by_cases b3 : inI p3 h = 0
          · simp only [b1, b2, b3, if_true, if_false]
          · simp [b1, b2, b3] at hb
  rcases inI_cases p1 (c := c) (by omega) with h1 | ⟨k1, hk1, rfl⟩
  · exact bad (by simp [h1])
  rcases inI_cases p2 (c := w) (by omega) with h2 | ⟨k2, hk2, rfl⟩
  · exact bad (by simp [h2])
  rcases inI_cases p3 (c := h) (by omega) with h3 | ⟨k3, hk3, rfl⟩
  · exact bad (by simp [h3])
  have y1 := inI_yes hk1 (show c < 2 ^ 31 by omega)
  have y2 := inI_yes hk2 (show w < 2 ^ 31 by omega)
  have y3 := inI_yes hk3 (show h < 2 ^ 31 by omega)
  obtain ⟨v, hv, v1, v2⟩ := hsam k1 k2 k3 hk1 hk2 hk3
  have hp := pow_le hd.2.2.2.2.2.1
  have eT : f_PI_hasTable 31 (nI k1) σ = if τ 67 k1 = 0 then 0 else 1 := by
    unfold f_PI_hasTable
    simp only [wt_0_1, wt_0_2, wt_0_3, wt_0_4, wt_0_5, wt_1_0, wt_1_1, wt_1_2, wt_1_3, wt_1_4, wt_2_0, wl_3, wt_4_0, wl_5, wt_6_0, wl_7, wt_8_0, wl_9, wt_10_0, wt_10_1, wt_10_2, wt_11_0, wl_12, wt_13_0, wl_14, wt_15_0, wl_16, wt_17_0, wl_18, wt_19_0, wl_20, wt_21_0, wt_21_1, wt_21_2, wt_21_3, wt_22_0, wt_22_1, wt_22_2, wt_23_0, wl_24, wt_25_0, wl_26, wt_27_0, wl_28, wt_29_0, wt_30_0, wt_30_1, wt_30_2, wt_30_3, wt_30_4, wt_30_5, wt_31_0, wt_31_1, wt_31_2, wt_31_3, wt_31_4, wt_32_0, wl_33, wt_34_0, wl_35, wt_36_0, wl_37, wt_38_0, wl_39, wt_40_0, wt_40_1, wt_40_2, wt_41_0, wl_42, wt_43_0, wl_44, wt_45_0, wl_46, wt_48_0, wt_48_1, wt_49_0, wt_49_1, wt_49_2, wt_50_0, wl_51, wt_52_0, wl_53, wt_54_0, wl_55, wt_56_6, wt_56_7, wt_56_8, wt_56_13, wt_56_14, wt_56_15, wt_56_16, wt_56_18, wt_56_21, wt_56_22, wt_56_23, wt_56_24, wt_56_25, wt_56_26, wt_56_27, wt_56_44, wt_56_45, wt_56_46, wt_56_47, wt_56_48, wt_56_49, wt_56_50, wt_56_51, wt_56_52, wt_56_53, wl_57, wl_58, wl_59, wl_60, wl_61, wl_62, wl_63, wl_64, wl_65, wl_66, wl_67, wl_68, wl_69, wl_70, wl_71, wl_72, wl_73, wl_74, wl_75, wl_76, wl_77, wl_78, wl_79, wl_80, wl_81, wl_82]
    rw [ro_get (a := 37) (n := 4) (by decide +kernel) (by decide +kernel) (by omega) (by decide), htb k1 (by omega)]
  have ei : nI k1 * 256 + nI v = nI (256 * k1 + v) := by
    rw [show (256 : Int32) = nI 256 from rfl, nI_mul, nI_add]
    congr 1; omega
  have ej : 256 * nI k1 + nI v = nI (256 * k1 + v) := by
    rw [show (256 : Int32) = nI 256 from rfl, nI_mul, nI_add]
  have eU : f_PI_numberOf 31 (nI k1) (nI v) σ = σ 39 (256 * k1 + v) := by
    unfold f_PI_numberOf
    simp only [wt_0_1, wt_0_2, wt_0_3, wt_0_4, wt_0_5, wt_1_0, wt_1_1, wt_1_2, wt_1_3, wt_1_4, wt_2_0, wl_3, wt_4_0, wl_5, wt_6_0, wl_7, wt_8_0, wl_9, wt_10_0, wt_10_1, wt_10_2, wt_11_0, wl_12, wt_13_0, wl_14, wt_15_0, wl_16, wt_17_0, wl_18, wt_19_0, wl_20, wt_21_0, wt_21_1, wt_21_2, wt_21_3, wt_22_0, wt_22_1, wt_22_2, wt_23_0, wl_24, wt_25_0, wl_26, wt_27_0, wl_28, wt_29_0, wt_30_0, wt_30_1, wt_30_2, wt_30_3, wt_30_4, wt_30_5, wt_31_0, wt_31_1, wt_31_2, wt_31_3, wt_31_4, wt_32_0, wl_33, wt_34_0, wl_35, wt_36_0, wl_37, wt_38_0, wl_39, wt_40_0, wt_40_1, wt_40_2, wt_41_0, wl_42, wt_43_0, wl_44, wt_45_0, wl_46, wt_48_0, wt_48_1, wt_49_0, wt_49_1, wt_49_2, wt_50_0, wl_51, wt_52_0, wl_53, wt_54_0, wl_55, wt_56_6, wt_56_7, wt_56_8, wt_56_13, wt_56_14, wt_56_15, wt_56_16, wt_56_18, wt_56_21, wt_56_22, wt_56_23, wt_56_24, wt_56_25, wt_56_26, wt_56_27, wt_56_44, wt_56_45, wt_56_46, wt_56_47, wt_56_48, wt_56_49, wt_56_50, wt_56_51, wt_56_52, wt_56_53, wl_57, wl_58, wl_59, wl_60, wl_61, wl_62, wl_63, wl_64, wl_65, wl_66, wl_67, wl_68, wl_69, wl_70, wl_71, wl_72, wl_73, wl_74, wl_75, wl_76, wl_77, wl_78, wl_79, wl_80, wl_81, wl_82]
    rw [ei, ro_get (a := 39) (n := 1024) (by decide +kernel) (by decide +kernel) (by omega) (by decide)]
  have eF : f_LF_at 0 (nI k1) (nI k2) (nI k3) p4 σ = .inl (if p4 = 0 then nI v else if τ 67 k1 = 0 then nI v else σ 39 (256 * k1 + v)) := by
    unfold f_LF_at f_LF_wantReading xcase lt
    simp only [wt_0_1, wt_0_2, wt_0_3, wt_0_4, wt_0_5, wt_1_0, wt_1_1, wt_1_2, wt_1_3, wt_1_4, wt_2_0, wl_3, wt_4_0, wl_5, wt_6_0, wl_7, wt_8_0, wl_9, wt_10_0, wt_10_1, wt_10_2, wt_11_0, wl_12, wt_13_0, wl_14, wt_15_0, wl_16, wt_17_0, wl_18, wt_19_0, wl_20, wt_21_0, wt_21_1, wt_21_2, wt_21_3, wt_22_0, wt_22_1, wt_22_2, wt_23_0, wl_24, wt_25_0, wl_26, wt_27_0, wl_28, wt_29_0, wt_30_0, wt_30_1, wt_30_2, wt_30_3, wt_30_4, wt_30_5, wt_31_0, wt_31_1, wt_31_2, wt_31_3, wt_31_4, wt_32_0, wl_33, wt_34_0, wl_35, wt_36_0, wl_37, wt_38_0, wl_39, wt_40_0, wt_40_1, wt_40_2, wt_41_0, wl_42, wt_43_0, wl_44, wt_45_0, wl_46, wt_48_0, wt_48_1, wt_49_0, wt_49_1, wt_49_2, wt_50_0, wl_51, wt_52_0, wl_53, wt_54_0, wl_55, wt_56_6, wt_56_7, wt_56_8, wt_56_13, wt_56_14, wt_56_15, wt_56_16, wt_56_18, wt_56_21, wt_56_22, wt_56_23, wt_56_24, wt_56_25, wt_56_26, wt_56_27, wt_56_44, wt_56_45, wt_56_46, wt_56_47, wt_56_48, wt_56_49, wt_56_50, wt_56_51, wt_56_52, wt_56_53, wl_57, wl_58, wl_59, wl_60, wl_61, wl_62, wl_63, wl_64, wl_65, wl_66, wl_67, wl_68, wl_69, wl_70, wl_71, wl_72, wl_73, wl_74, wl_75, wl_76, wl_77, wl_78, wl_79, wl_80, wl_81, wl_82, h0, if_false, eH, y1, y2, y3, show ¬ (1 : Int32) = 0 by decide, place_nI]
    rw [ro_get (k := 32) (a := 33) (n := 576) (by decide +kernel) (by decide +kernel) (by omega) (by decide), v1, eT, eU]
    by_cases z : τ 67 k1 = 0 <;> simp [z]
  have eR : f_RM_at 56 (nI k1) (nI k2) (nI k3) p4 τ = some ((if p4 = 0 then nI v else if τ 67 k1 = 0 then nI v else τ 68 (256 * k1 + v)), mput τ 56 1 0) := by
    unfold f_RM_at lt
    simp only [wt_0_1, wt_0_2, wt_0_3, wt_0_4, wt_0_5, wt_1_0, wt_1_1, wt_1_2, wt_1_3, wt_1_4, wt_2_0, wl_3, wt_4_0, wl_5, wt_6_0, wl_7, wt_8_0, wl_9, wt_10_0, wt_10_1, wt_10_2, wt_11_0, wl_12, wt_13_0, wl_14, wt_15_0, wl_16, wt_17_0, wl_18, wt_19_0, wl_20, wt_21_0, wt_21_1, wt_21_2, wt_21_3, wt_22_0, wt_22_1, wt_22_2, wt_23_0, wl_24, wt_25_0, wl_26, wt_27_0, wl_28, wt_29_0, wt_30_0, wt_30_1, wt_30_2, wt_30_3, wt_30_4, wt_30_5, wt_31_0, wt_31_1, wt_31_2, wt_31_3, wt_31_4, wt_32_0, wl_33, wt_34_0, wl_35, wt_36_0, wl_37, wt_38_0, wl_39, wt_40_0, wt_40_1, wt_40_2, wt_41_0, wl_42, wt_43_0, wl_44, wt_45_0, wl_46, wt_48_0, wt_48_1, wt_49_0, wt_49_1, wt_49_2, wt_50_0, wl_51, wt_52_0, wl_53, wt_54_0, wl_55, wt_56_6, wt_56_7, wt_56_8, wt_56_13, wt_56_14, wt_56_15, wt_56_16, wt_56_18, wt_56_21, wt_56_22, wt_56_23, wt_56_24, wt_56_25, wt_56_26, wt_56_27, wt_56_44, wt_56_45, wt_56_46, wt_56_47, wt_56_48, wt_56_49, wt_56_50, wt_56_51, wt_56_52, wt_56_53, wl_57, wl_58, wl_59, wl_60, wl_61, wl_62, wl_63, wl_64, wl_65, wl_66, wl_67, wl_68, wl_69, wl_70, wl_71, wl_72, wl_73, wl_74, wl_75, wl_76, wl_77, wl_78, wl_79, wl_80, wl_81, wl_82, ← a1, h0, if_false, j0, j1, j3, t0, t1, t3, r1, r2, r4, i0 _ _ c (by omega), i0 _ _ w (by omega), i0 _ _ h (by omega), if_true, y1, y2, y3, show ¬ (1 : Int32) = 0 by decide, mput_app, and_self, show (0 : Int32) ≤ 0 by decide, Nat.reduceEqDiff, false_and, place_nR, inb_nI (show 144 * k1 + 12 * k3 + k2 < 576 by omega) (by decide), nI_clamp (show 144 * k1 + 12 * k3 + k2 < 2 ^ 31 by omega), v2, inb_nI (show k1 < 4 by omega) (by decide), nI_clamp (show k1 < 2 ^ 31 by omega), ej, inb_nI (show 256 * k1 + v < 1024 by omega) (by decide), nI_clamp (show 256 * k1 + v < 2 ^ 31 by omega)]
    by_cases z4 : p4 = 0
    · simp [z4]
    · by_cases z : τ 67 k1 = 0 <;> simp [z, z4]
  refine fin_ok (F := (f_LF_at 0 (nI k1) (nI k2) (nI k3) p4 σ, σ)) (v := if p4 = 0 then nI v else if τ 67 k1 = 0 then nI v else σ 39 (256 * k1 + v)) (σ1 := σ) (τ1 := mput τ 56 1 0) (by rw [eF]) ?_ (fun _ _ => rfl) FrR.thr H.thr (by simp [mput_app])
  rw [eR]
  by_cases z : τ 67 k1 = 0
  · simp [z]
  · rw [htn k1 v hk1 (by rw [htb k1 (by omega)]; exact z) hv]
