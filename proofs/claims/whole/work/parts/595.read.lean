/-! reading: from the first mark to the end -/
set_option maxRecDepth 100000 in
set_option maxHeartbeats 4000000 in
theorem r_loop {σ0 τ0 : Mem} {m : Nat} {d : Nat → Nat} (B : RB σ0 τ0 m d) : ∀ (e p a n g : Nat) (σ τ : Mem), m < p + e + 1 → a + e ≤ 6000 → e + 2 < n → e + 3 < g → RS σ0 τ0 m p σ τ →
    Both (L_LF_read_9 0 n (nI a) σ) (L_RM_read_11 56 g 0 τ) (fun A D => FTm σ0 τ0 A.2 D.2 ∨ ∃ p1, RE σ0 τ0 m p1 A.2 D.2) := by
  intro e
  induction e using Nat.strongRecOn with
  | ind e ih =>
    intro p a n g σ τ h1 h2 h3 h4 H
    obtain ⟨n, rfl⟩ := Nat.exists_eq_succ_of_ne_zero (show n ≠ 0 by omega)
    obtain ⟨g, rfl⟩ := Nat.exists_eq_succ_of_ne_zero (show g ≠ 0 by omega)
    obtain ⟨F, ⟨w, h, b, c, rs, st, rt, nn, sc, HH, hsc⟩, e6, e32, hp⟩ := id H
    have Z := HH.2.2.2.2.2
    have end0 : f_SR_ended 30 σ = 0 := by
      rw [f_SR_ended, wt_30_2, Z.2.2.2, if_pos rfl, Z.met, if_pos rfl]
    rw [L_LF_read_9, wt_0_5, if_neg (show ¬ (6000 : Int32) < nI a from Int32.not_lt.mpr (nI_le (b := 6000) (by omega) (by decide))), end0, if_pos rfl, read_step Z.2.2.1, nI_1]
    refine both_bind (r_step B H) (fun s u H1 => ?_)
    rcases H1 with ⟨g1, g2⟩ | ⟨g1, p1, g2, g3⟩ | ⟨g1, g2⟩
    · obtain ⟨n, rfl⟩ := Nat.exists_eq_succ_of_ne_zero (show n ≠ 0 by omega)
      obtain ⟨g, rfl⟩ := Nat.exists_eq_succ_of_ne_zero (show g ≠ 0 by omega)
      have en : f_SR_ended 30 s = 1 := by
        rw [f_SR_ended, wt_30_2, g2.2.2.2.2.2.2.1, if_pos rfl, g2.met, if_neg (show ¬ (1 : Int32) = 0 by decide)]
      refine ⟨(nI (a + 1), s), (u.1, u.2), ?_, ?_, Or.inl g2⟩
      · rw [L_LF_read_9, wt_0_5, en, if_neg (show ¬ (1 : Int32) = 0 by decide)]
        split <;> rfl
      · rw [L_RM_read_11, if_neg (show ¬ u.2 56 28 = 0 by rw [← g2.2.1]; exact g2.2.2.1)]
    · rw [g1]
      have hp1 : p1 ≤ m := g3.2.2.2.2
      exact ih (e - 2) (by omega) p1 (a + 1) n g s u.2 (by omega) (by omega) (by omega) (by omega) g3
    · obtain ⟨n, rfl⟩ := Nat.exists_eq_succ_of_ne_zero (show n ≠ 0 by omega)
      obtain ⟨g, rfl⟩ := Nat.exists_eq_succ_of_ne_zero (show g ≠ 0 by omega)
      have en : f_SR_ended 30 s = 1 := by
        rcases g2.2.2.2 with ⟨k1, k2, k3, -⟩ | ⟨k1, τ1, k2, k3⟩
        · rw [f_SR_ended, k3, if_neg (show ¬ (1 : Int32) = 0 by decide)]
        · rw [f_SR_ended, wt_30_2, k3.2.2.2.2.2.2.1, if_pos rfl, k3.met, if_neg (show ¬ (1 : Int32) = 0 by decide)]
      refine ⟨(nI (a + 1), s), (1, u.2), ?_, ?_, Or.inr ⟨p + 2, g2⟩⟩
      · rw [L_LF_read_9, wt_0_5, en, if_neg (show ¬ (1 : Int32) = 0 by decide)]
        split <;> rfl
      · rw [g1, L_RM_read_11, g2.1, if_pos rfl, if_neg (show ¬ (1 : Int32) = 0 by decide)]
set_option maxRecDepth 100000 in
set_option maxHeartbeats 4000000 in
/-- a row copied by the reference -/
theorem copy_loop {L : Nat → Int32 → Mem → Option (Int32 × Mem)} {N A Bq nA nB : Nat} {f : Int32 → Int32} (e : ∀ n a s, L (n + 1) a s = if nI N ≤ a then some (a, s) else if inb a nB = true then (if inb a nA = true then L n (a + 1) (mput s A a.toNatClampNeg (f (s Bq a.toNatClampNeg))) else none) else none) (hA : N ≤ nA) (hB : N ≤ nB) (h9 : N < 9999) (h31 : nA < 2 ^ 31 ∧ nB < 2 ^ 31) (hne : ¬ Bq = A) (τ : Mem) : ∃ t, L 9999 0 τ = some (nI N, t) ∧ (∀ k, ¬ k = A → t k = τ k) ∧ ∀ i, i < N → t A i = f (τ Bq i) := by
  obtain ⟨a, ea, e0, h1, h2⟩ := loopS (C := fun g j t => L g (nI j) t) (P := fun j t => (∀ k, ¬ k = A → t k = τ k) ∧ ∀ i, i < j → t A i = f (τ Bq i)) (Q := fun a => a.1 = nI N ∧ (∀ k, ¬ k = A → a.2 k = τ k) ∧ ∀ i, i < N → a.2 A i = f (τ Bq i)) (hi := N) (fun s hs n => ⟨(nI N, s), by
      show L (n + 1) (nI N) s = _
      rw [e, if_pos (nI_le (Nat.le_refl _) (by omega))], rfl, hs⟩) (fun k s hk hs => Or.inl ⟨mput s A k (f (τ Bq k)), fun n => by
      show L (n + 1) (nI k) s = _
      rw [e, if_neg (nI_ge hk (by omega)), if_pos (inb_nI (by omega) (by omega)), if_pos (inb_nI (by omega) (by omega)), nI_clamp (by omega), hs.1 Bq hne, nI_1], fun j hj => by rw [mput_cell hj, hs.1 j hj], fun i hi => by
      by_cases z : i = k
      · rw [z, mput_same]
      · rw [mput_slot z, hs.2 i (by omega)]⟩) N 9999 0 τ (by omega) (by omega) ⟨fun _ _ => rfl, fun i hi => by omega⟩
  exact ⟨a.2, by show L 9999 (nI 0) τ = _; rw [ea, ← e0], h1, h2⟩
set_option maxRecDepth 100000 in
set_option maxHeartbeats 4000000 in
theorem rm_keep {τ : Mem} : ∃ t, f_RM_keep 56 τ = some t ∧ (∀ k, ¬ (65 ≤ k ∧ k ≤ 71) → t k = τ k) ∧ (t 65 0 = τ 56 34 ∧ t 65 1 = τ 56 35 ∧ t 65 2 = τ 56 36 ∧ t 65 3 = τ 56 37 ∧ t 65 4 = τ 56 42 ∧ t 65 5 = τ 56 43 ∧ t 65 6 = τ 56 38 ∧ t 65 7 = τ 56 39 ∧ t 65 8 = τ 56 40 ∧ t 65 9 = τ 56 41) ∧ (∀ i, i < 576 → t 66 i = τ 72 i) ∧ (∀ i, i < 1024 → t 68 i = τ 74 i) ∧ (∀ i, i < 4 → t 67 i = nz (τ 73 i)) ∧ (∀ i, i < 6 → t 69 i = τ 75 i ∧ t 70 i = τ 76 i) ∧ ∀ i, i < 180 → t 71 i = τ 77 i := by
  rw [f_RM_keep]
  simp only [lt_eq, wt_0_1, wt_0_2, wt_0_3, wt_0_4, wt_0_5, wt_1_0, wt_1_1, wt_1_2, wt_1_3, wt_1_4, wt_2_0, wl_3, wt_4_0, wl_5, wt_6_0, wl_7, wt_8_0, wl_9, wt_10_0, wt_10_1, wt_10_2, wt_11_0, wl_12, wt_13_0, wl_14, wt_15_0, wl_16, wt_17_0, wl_18, wt_19_0, wl_20, wt_21_0, wt_21_1, wt_21_2, wt_21_3, wt_22_0, wt_22_1, wt_22_2, wt_23_0, wl_24, wt_25_0, wl_26, wt_27_0, wl_28, wt_29_0, wt_30_0, wt_30_1, wt_30_2, wt_30_3, wt_30_4, wt_30_5, wt_31_0, wt_31_1, wt_31_2, wt_31_3, wt_31_4, wt_32_0, wl_33, wt_34_0, wl_35, wt_36_0, wl_37, wt_38_0, wl_39, wt_40_0, wt_40_1, wt_40_2, wt_41_0, wl_42, wt_43_0, wl_44, wt_45_0, wl_46, wt_48_0, wt_48_1, wt_49_0, wt_49_1, wt_49_2, wt_50_0, wl_51, wt_52_0, wl_53, wt_54_0, wl_55, wt_56_6, wt_56_7, wt_56_8, wt_56_13, wt_56_14, wt_56_15, wt_56_16, wt_56_18, wt_56_21, wt_56_22, wt_56_23, wt_56_24, wt_56_25, wt_56_26, wt_56_27, wt_56_44, wt_56_45, wt_56_46, wt_56_47, wt_56_48, wt_56_49, wt_56_50, wt_56_51, wt_56_52, wt_56_53, wl_57, wl_58, wl_59, wl_60, wl_61, wl_62, wl_63, wl_64, wl_65, wl_66, wl_67, wl_68, wl_69, wl_70, wl_71, wl_72, wl_73, wl_74, wl_75, wl_76, wl_77, wl_78, wl_79, wl_80, wl_81, wl_82, show inb (0 : Int32) 10 = true by decide +kernel, show inb (1 : Int32) 10 = true by decide +kernel, show inb (2 : Int32) 10 = true by decide +kernel, show inb (3 : Int32) 10 = true by decide +kernel, show inb (4 : Int32) 10 = true by decide +kernel, show inb (5 : Int32) 10 = true by decide +kernel, show inb (6 : Int32) 10 = true by decide +kernel, show inb (7 : Int32) 10 = true by decide +kernel, show inb (8 : Int32) 10 = true by decide +kernel, show inb (9 : Int32) 10 = true by decide +kernel, if_true, show (0 : Int32).toNatClampNeg = 0 from rfl, show (1 : Int32).toNatClampNeg = 1 from rfl, show (2 : Int32).toNatClampNeg = 2 from rfl, show (3 : Int32).toNatClampNeg = 3 from rfl, show (4 : Int32).toNatClampNeg = 4 from rfl, show (5 : Int32).toNatClampNeg = 5 from rfl, show (6 : Int32).toNatClampNeg = 6 from rfl, show (7 : Int32).toNatClampNeg = 7 from rfl, show (8 : Int32).toNatClampNeg = 8 from rfl, show (9 : Int32).toNatClampNeg = 9 from rfl, mput_cell, Nat.reduceEqDiff, not_false_eq_true]
  generalize h0 : mput (mput (mput (mput (mput (mput (mput (mput (mput (mput τ 65 0 (τ 56 34)) 65 1 (τ 56 35)) 65 2 (τ 56 36)) 65 3 (τ 56 37)) 65 4 (τ 56 42)) 65 5 (τ 56 43)) 65 6 (τ 56 38)) 65 7 (τ 56 39)) 65 8 (τ 56 40)) 65 9 (τ 56 41) = t0
  have z0 : ∀ k, ¬ k = 65 → t0 k = τ k := fun k hk => by rw [← h0]; simp only [mput_cell hk]
  have z1 : t0 65 0 = τ 56 34 ∧ t0 65 1 = τ 56 35 ∧ t0 65 2 = τ 56 36 ∧ t0 65 3 = τ 56 37 ∧ t0 65 4 = τ 56 42 ∧ t0 65 5 = τ 56 43 ∧ t0 65 6 = τ 56 38 ∧ t0 65 7 = τ 56 39 ∧ t0 65 8 = τ 56 40 ∧ t0 65 9 = τ 56 41 := by
    rw [← h0]
    simp only [mput_same, mput_slot, Nat.reduceEqDiff, not_false_eq_true]
    exact ⟨trivial, trivial, trivial, trivial, trivial, trivial, trivial, trivial, trivial, trivial⟩
  obtain ⟨t1, e1, a1, b1⟩ := copy_loop (L := L_RM_keep_106 56) (N := 576) (A := 66) (Bq := 72) (nA := 576) (nB := 576) (f := id) (fun n a s => by rw [L_RM_keep_106]; simp only [lt_eq, wt_0_1, wt_0_2, wt_0_3, wt_0_4, wt_0_5, wt_1_0, wt_1_1, wt_1_2, wt_1_3, wt_1_4, wt_2_0, wl_3, wt_4_0, wl_5, wt_6_0, wl_7, wt_8_0, wl_9, wt_10_0, wt_10_1, wt_10_2, wt_11_0, wl_12, wt_13_0, wl_14, wt_15_0, wl_16, wt_17_0, wl_18, wt_19_0, wl_20, wt_21_0, wt_21_1, wt_21_2, wt_21_3, wt_22_0, wt_22_1, wt_22_2, wt_23_0, wl_24, wt_25_0, wl_26, wt_27_0, wl_28, wt_29_0, wt_30_0, wt_30_1, wt_30_2, wt_30_3, wt_30_4, wt_30_5, wt_31_0, wt_31_1, wt_31_2, wt_31_3, wt_31_4, wt_32_0, wl_33, wt_34_0, wl_35, wt_36_0, wl_37, wt_38_0, wl_39, wt_40_0, wt_40_1, wt_40_2, wt_41_0, wl_42, wt_43_0, wl_44, wt_45_0, wl_46, wt_48_0, wt_48_1, wt_49_0, wt_49_1, wt_49_2, wt_50_0, wl_51, wt_52_0, wl_53, wt_54_0, wl_55, wt_56_6, wt_56_7, wt_56_8, wt_56_13, wt_56_14, wt_56_15, wt_56_16, wt_56_18, wt_56_21, wt_56_22, wt_56_23, wt_56_24, wt_56_25, wt_56_26, wt_56_27, wt_56_44, wt_56_45, wt_56_46, wt_56_47, wt_56_48, wt_56_49, wt_56_50, wt_56_51, wt_56_52, wt_56_53, wl_57, wl_58, wl_59, wl_60, wl_61, wl_62, wl_63, wl_64, wl_65, wl_66, wl_67, wl_68, wl_69, wl_70, wl_71, wl_72, wl_73, wl_74, wl_75, wl_76, wl_77, wl_78, wl_79, wl_80, wl_81, wl_82]; rfl) (by omega) (by omega) (by omega) (by omega) (by decide) t0
  obtain ⟨t2, e2, a2, b2⟩ := copy_loop (L := L_RM_keep_133 56) (N := 1024) (A := 68) (Bq := 74) (nA := 1024) (nB := 1024) (f := id) (fun n a s => by rw [L_RM_keep_133]; simp only [lt_eq, wt_0_1, wt_0_2, wt_0_3, wt_0_4, wt_0_5, wt_1_0, wt_1_1, wt_1_2, wt_1_3, wt_1_4, wt_2_0, wl_3, wt_4_0, wl_5, wt_6_0, wl_7, wt_8_0, wl_9, wt_10_0, wt_10_1, wt_10_2, wt_11_0, wl_12, wt_13_0, wl_14, wt_15_0, wl_16, wt_17_0, wl_18, wt_19_0, wl_20, wt_21_0, wt_21_1, wt_21_2, wt_21_3, wt_22_0, wt_22_1, wt_22_2, wt_23_0, wl_24, wt_25_0, wl_26, wt_27_0, wl_28, wt_29_0, wt_30_0, wt_30_1, wt_30_2, wt_30_3, wt_30_4, wt_30_5, wt_31_0, wt_31_1, wt_31_2, wt_31_3, wt_31_4, wt_32_0, wl_33, wt_34_0, wl_35, wt_36_0, wl_37, wt_38_0, wl_39, wt_40_0, wt_40_1, wt_40_2, wt_41_0, wl_42, wt_43_0, wl_44, wt_45_0, wl_46, wt_48_0, wt_48_1, wt_49_0, wt_49_1, wt_49_2, wt_50_0, wl_51, wt_52_0, wl_53, wt_54_0, wl_55, wt_56_6, wt_56_7, wt_56_8, wt_56_13, wt_56_14, wt_56_15, wt_56_16, wt_56_18, wt_56_21, wt_56_22, wt_56_23, wt_56_24, wt_56_25, wt_56_26, wt_56_27, wt_56_44, wt_56_45, wt_56_46, wt_56_47, wt_56_48, wt_56_49, wt_56_50, wt_56_51, wt_56_52, wt_56_53, wl_57, wl_58, wl_59, wl_60, wl_61, wl_62, wl_63, wl_64, wl_65, wl_66, wl_67, wl_68, wl_69, wl_70, wl_71, wl_72, wl_73, wl_74, wl_75, wl_76, wl_77, wl_78, wl_79, wl_80, wl_81, wl_82]; rfl) (by omega) (by omega) (by omega) (by omega) (by decide) t1
  obtain ⟨t3, e3, a3, b3⟩ := copy_loop (L := L_RM_keep_160 56) (N := 4) (A := 67) (Bq := 73) (nA := 4) (nB := 4) (f := nz) (fun n a s => by rw [L_RM_keep_160]; simp only [lt_eq, wt_0_1, wt_0_2, wt_0_3, wt_0_4, wt_0_5, wt_1_0, wt_1_1, wt_1_2, wt_1_3, wt_1_4, wt_2_0, wl_3, wt_4_0, wl_5, wt_6_0, wl_7, wt_8_0, wl_9, wt_10_0, wt_10_1, wt_10_2, wt_11_0, wl_12, wt_13_0, wl_14, wt_15_0, wl_16, wt_17_0, wl_18, wt_19_0, wl_20, wt_21_0, wt_21_1, wt_21_2, wt_21_3, wt_22_0, wt_22_1, wt_22_2, wt_23_0, wl_24, wt_25_0, wl_26, wt_27_0, wl_28, wt_29_0, wt_30_0, wt_30_1, wt_30_2, wt_30_3, wt_30_4, wt_30_5, wt_31_0, wt_31_1, wt_31_2, wt_31_3, wt_31_4, wt_32_0, wl_33, wt_34_0, wl_35, wt_36_0, wl_37, wt_38_0, wl_39, wt_40_0, wt_40_1, wt_40_2, wt_41_0, wl_42, wt_43_0, wl_44, wt_45_0, wl_46, wt_48_0, wt_48_1, wt_49_0, wt_49_1, wt_49_2, wt_50_0, wl_51, wt_52_0, wl_53, wt_54_0, wl_55, wt_56_6, wt_56_7, wt_56_8, wt_56_13, wt_56_14, wt_56_15, wt_56_16, wt_56_18, wt_56_21, wt_56_22, wt_56_23, wt_56_24, wt_56_25, wt_56_26, wt_56_27, wt_56_44, wt_56_45, wt_56_46, wt_56_47, wt_56_48, wt_56_49, wt_56_50, wt_56_51, wt_56_52, wt_56_53, wl_57, wl_58, wl_59, wl_60, wl_61, wl_62, wl_63, wl_64, wl_65, wl_66, wl_67, wl_68, wl_69, wl_70, wl_71, wl_72, wl_73, wl_74, wl_75, wl_76, wl_77, wl_78, wl_79, wl_80, wl_81, wl_82]; rfl) (by omega) (by omega) (by omega) (by omega) (by decide) t2
  obtain ⟨q4, e4, a4, b4⟩ := loopS (C := fun g j t => L_RM_keep_185 56 g (nI j) t) (P := fun j t => (∀ k, ¬ k = 69 → ¬ k = 70 → t k = t3 k) ∧ ∀ i, i < j → t 69 i = t3 75 i ∧ t 70 i = t3 76 i) (Q := fun a => (∀ k, ¬ k = 69 → ¬ k = 70 → a.2 k = t3 k) ∧ ∀ i, i < 6 → a.2 69 i = t3 75 i ∧ a.2 70 i = t3 76 i) (hi := 6) (fun s hs n => ⟨(nI 6, s), by
      show L_RM_keep_185 56 (n + 1) (nI 6) s = _
      rw [L_RM_keep_185, if_pos (by decide)], hs⟩) (fun k s hk hs => Or.inl ⟨mput (mput s 69 k (t3 75 k)) 70 k (t3 76 k), fun n => by
      show L_RM_keep_185 56 (n + 1) (nI k) s = _
      rw [L_RM_keep_185, if_neg (show ¬ (6 : Int32) ≤ nI k from nI_ge (b := 6) hk (by decide))]
      simp only [lt_eq, wt_0_1, wt_0_2, wt_0_3, wt_0_4, wt_0_5, wt_1_0, wt_1_1, wt_1_2, wt_1_3, wt_1_4, wt_2_0, wl_3, wt_4_0, wl_5, wt_6_0, wl_7, wt_8_0, wl_9, wt_10_0, wt_10_1, wt_10_2, wt_11_0, wl_12, wt_13_0, wl_14, wt_15_0, wl_16, wt_17_0, wl_18, wt_19_0, wl_20, wt_21_0, wt_21_1, wt_21_2, wt_21_3, wt_22_0, wt_22_1, wt_22_2, wt_23_0, wl_24, wt_25_0, wl_26, wt_27_0, wl_28, wt_29_0, wt_30_0, wt_30_1, wt_30_2, wt_30_3, wt_30_4, wt_30_5, wt_31_0, wt_31_1, wt_31_2, wt_31_3, wt_31_4, wt_32_0, wl_33, wt_34_0, wl_35, wt_36_0, wl_37, wt_38_0, wl_39, wt_40_0, wt_40_1, wt_40_2, wt_41_0, wl_42, wt_43_0, wl_44, wt_45_0, wl_46, wt_48_0, wt_48_1, wt_49_0, wt_49_1, wt_49_2, wt_50_0, wl_51, wt_52_0, wl_53, wt_54_0, wl_55, wt_56_6, wt_56_7, wt_56_8, wt_56_13, wt_56_14, wt_56_15, wt_56_16, wt_56_18, wt_56_21, wt_56_22, wt_56_23, wt_56_24, wt_56_25, wt_56_26, wt_56_27, wt_56_44, wt_56_45, wt_56_46, wt_56_47, wt_56_48, wt_56_49, wt_56_50, wt_56_51, wt_56_52, wt_56_53, wl_57, wl_58, wl_59, wl_60, wl_61, wl_62, wl_63, wl_64, wl_65, wl_66, wl_67, wl_68, wl_69, wl_70, wl_71, wl_72, wl_73, wl_74, wl_75, wl_76, wl_77, wl_78, wl_79, wl_80, wl_81, wl_82, inb_nI hk (show 6 < 2 ^ 31 by decide), if_true]
      rw [nI_clamp (by omega), mput_cell (by decide), hs.1 75 (by decide) (by decide), hs.1 76 (by decide) (by decide), nI_1], fun j h1 h2 => by rw [mput_cell h2, mput_cell h1, hs.1 j h1 h2], fun i hi => by
      by_cases z : i = k
      · subst z
        rw [mput_cell (by decide), mput_same, mput_same]
        exact ⟨rfl, rfl⟩
      · rw [mput_cell (by decide), mput_slot z, mput_slot z, mput_cell (by decide)]
        exact hs.2 i (by omega)⟩) 6 9999 0 t3 (by omega) (by omega) ⟨fun _ _ _ => rfl, fun i hi => by omega⟩
  obtain ⟨t5, e5, a5, b5⟩ := copy_loop (L := L_RM_keep_223 56) (N := 180) (A := 71) (Bq := 77) (nA := 180) (nB := 180) (f := id) (fun n a s => by rw [L_RM_keep_223]; simp only [lt_eq, wt_0_1, wt_0_2, wt_0_3, wt_0_4, wt_0_5, wt_1_0, wt_1_1, wt_1_2, wt_1_3, wt_1_4, wt_2_0, wl_3, wt_4_0, wl_5, wt_6_0, wl_7, wt_8_0, wl_9, wt_10_0, wt_10_1, wt_10_2, wt_11_0, wl_12, wt_13_0, wl_14, wt_15_0, wl_16, wt_17_0, wl_18, wt_19_0, wl_20, wt_21_0, wt_21_1, wt_21_2, wt_21_3, wt_22_0, wt_22_1, wt_22_2, wt_23_0, wl_24, wt_25_0, wl_26, wt_27_0, wl_28, wt_29_0, wt_30_0, wt_30_1, wt_30_2, wt_30_3, wt_30_4, wt_30_5, wt_31_0, wt_31_1, wt_31_2, wt_31_3, wt_31_4, wt_32_0, wl_33, wt_34_0, wl_35, wt_36_0, wl_37, wt_38_0, wl_39, wt_40_0, wt_40_1, wt_40_2, wt_41_0, wl_42, wt_43_0, wl_44, wt_45_0, wl_46, wt_48_0, wt_48_1, wt_49_0, wt_49_1, wt_49_2, wt_50_0, wl_51, wt_52_0, wl_53, wt_54_0, wl_55, wt_56_6, wt_56_7, wt_56_8, wt_56_13, wt_56_14, wt_56_15, wt_56_16, wt_56_18, wt_56_21, wt_56_22, wt_56_23, wt_56_24, wt_56_25, wt_56_26, wt_56_27, wt_56_44, wt_56_45, wt_56_46, wt_56_47, wt_56_48, wt_56_49, wt_56_50, wt_56_51, wt_56_52, wt_56_53, wl_57, wl_58, wl_59, wl_60, wl_61, wl_62, wl_63, wl_64, wl_65, wl_66, wl_67, wl_68, wl_69, wl_70, wl_71, wl_72, wl_73, wl_74, wl_75, wl_76, wl_77, wl_78, wl_79, wl_80, wl_81, wl_82]; rfl) (by omega) (by omega) (by omega) (by omega) (by decide) q4.2
  have e4' : L_RM_keep_185 56 9999 0 t3 = some q4 := e4
  have up : ∀ k, ¬ (65 ≤ k ∧ k ≤ 71) → t5 k = τ k := fun k hk => by rw [a5 k (by omega), a4 k (by omega) (by omega), a3 k (by omega), a2 k (by omega), a1 k (by omega), z0 k (by omega)]
  refine ⟨t5, by rw [e1, Option.bind_some, e2, Option.bind_some, e3, Option.bind_some, e4', Option.bind_some, e5, Option.bind_some], up, ?_, ?_, ?_, ?_, ?_, ?_⟩
  · rw [a5 65 (by decide), a4 65 (by decide) (by decide), a3 65 (by decide), a2 65 (by decide), a1 65 (by decide)]
    exact z1
  · intro i hi
    rw [a5 66 (by decide), a4 66 (by decide) (by decide), a3 66 (by decide), a2 66 (by decide), b1 i hi, z0 72 (by decide)]
    rfl
  · intro i hi
    rw [a5 68 (by decide), a4 68 (by decide) (by decide), a3 68 (by decide), b2 i hi, a1 74 (by decide), z0 74 (by decide)]
    rfl
  · intro i hi
    rw [a5 67 (by decide), a4 67 (by decide) (by decide), b3 i hi, a2 73 (by decide), a1 73 (by decide), z0 73 (by decide)]
  · intro i hi
    rw [a5 69 (by decide), a5 70 (by decide), (b4 i hi).1, (b4 i hi).2, a3 75 (by decide), a2 75 (by decide), a1 75 (by decide), z0 75 (by decide), a3 76 (by decide), a2 76 (by decide), a1 76 (by decide), z0 76 (by decide)]
    exact ⟨rfl, rfl⟩
  · intro i hi
    rw [b5 i hi, a4 77 (by decide) (by decide), a3 77 (by decide), a2 77 (by decide), a1 77 (by decide), z0 77 (by decide)]
    rfl
