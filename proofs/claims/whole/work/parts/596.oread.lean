/-! reading: the call -/
set_option maxRecDepth 100000 in
set_option maxHeartbeats 4000000 in
theorem c_begin {σ : Mem} : f_SR_begin 30 σ = some (mput (mput (mput (mput (fillr (mput (mput (mput (mput (mput (mput (fillr (fillr (mput (mput (mput (mput σ 31 5 0) 31 6 0) 31 7 0) 31 8 0) 33 576 0) 37 4 0) 40 3 0) 35 0 64) 35 1 4) 35 2 0) 47 0 0) 47 1 0) 55 4 0) 30 6 0) 30 7 0) 30 12 0) 30 13 0) := by
  rw [f_SR_begin, wt_30_1, wt_30_2, wt_30_5, f_PI_clear, f_PI_measure, wt_31_0, wt_31_1, wt_31_2, wt_31_4]
  simp only [lt_eq]
  have s0 : ∀ v s, f_RO_set 34 (0 : Int32) v s = mput s 35 0 v := fun v s => ro_set (k := 34) (a := 35) (n := 3) (i := 0) wt_34_0 wl_35 (by decide) (by decide)
  have s1 : ∀ v s, f_RO_set 34 (1 : Int32) v s = mput s 35 1 v := fun v s => ro_set (k := 34) (a := 35) (n := 3) (i := 1) wt_34_0 wl_35 (by decide) (by decide)
  have s2 : ∀ v s, f_RO_set 34 (2 : Int32) v s = mput s 35 2 v := fun v s => ro_set (k := 34) (a := 35) (n := 3) (i := 2) wt_34_0 wl_35 (by decide) (by decide)
  rw [ro_fill (k := 32) (a := 33) (n := 576) wt_32_0 wl_33 (by decide), Option.bind_some, ro_fill (k := 36) (a := 37) (n := 4) wt_36_0 wl_37 (by decide), Option.bind_some, Option.bind_some, f_NO_clear, lt_eq, s0, s1, s2, f_FA_clear, lt_eq, lt_eq, ro_fill (k := 54) (a := 55) (n := 4) wt_54_0 wl_55 (by decide), Option.bind_some]
set_option maxRecDepth 100000 in
set_option maxHeartbeats 4000000 in
theorem r_clear {τ : Mem} : ∃ t, f_RM_clear 56 τ = some t ∧ (∀ k, ¬ k = 56 → ¬ k = 73 → ¬ k = 78 → t k = τ k) ∧ (∀ j, ¬ (28 ≤ j ∧ j ≤ 33) → ¬ (37 ≤ j ∧ j ≤ 41) → t 56 j = τ 56 j) ∧ (t 56 28 = 0 ∧ t 56 30 = 0 ∧ t 56 31 = 0 ∧ t 56 32 = 0 ∧ t 56 33 = 0 ∧ t 56 37 = 0 ∧ t 56 38 = 64 ∧ t 56 39 = 4 ∧ t 56 40 = 0 ∧ t 56 41 = 0) ∧ ∀ i, i < 4 → t 73 i = 0 ∧ t 78 i = 0 := by
  have nz0 : nz 0 = 0 := by decide
  rw [f_RM_clear]
  simp only [lt_eq]
  generalize h0 : mput (mput (mput (mput (mput (mput (mput (mput (mput (mput (mput τ 56 28 0) 56 29 0) 56 30 0) 56 31 0) 56 32 0) 56 33 0) 56 37 0) 56 38 64) 56 39 4) 56 40 0) 56 41 0 = t0
  obtain ⟨a, ea, h1, h2⟩ := loopS (C := fun g j t => L_RM_clear_58 56 g (nI j) t) (P := fun j t => (∀ k, ¬ k = 73 → ¬ k = 78 → t k = t0 k) ∧ ∀ i, i < j → t 73 i = 0 ∧ t 78 i = 0) (Q := fun a => (∀ k, ¬ k = 73 → ¬ k = 78 → a.2 k = t0 k) ∧ ∀ i, i < 4 → a.2 73 i = 0 ∧ a.2 78 i = 0) (hi := 4) (fun s hs n => ⟨(nI 4, s), by
      show L_RM_clear_58 56 (n + 1) (nI 4) s = _
      rw [L_RM_clear_58, if_pos (by decide)], hs⟩) (fun k s hk hs => Or.inl ⟨mput (mput s 73 k 0) 78 k 0, fun n => by
      show L_RM_clear_58 56 (n + 1) (nI k) s = _
      rw [L_RM_clear_58, if_neg (show ¬ (4 : Int32) ≤ nI k from nI_ge (b := 4) hk (by decide))]
      simp only [lt_eq, wt_0_1, wt_0_2, wt_0_3, wt_0_4, wt_0_5, wt_1_0, wt_1_1, wt_1_2, wt_1_3, wt_1_4, wt_2_0, wl_3, wt_4_0, wl_5, wt_6_0, wl_7, wt_8_0, wl_9, wt_10_0, wt_10_1, wt_10_2, wt_11_0, wl_12, wt_13_0, wl_14, wt_15_0, wl_16, wt_17_0, wl_18, wt_19_0, wl_20, wt_21_0, wt_21_1, wt_21_2, wt_21_3, wt_22_0, wt_22_1, wt_22_2, wt_23_0, wl_24, wt_25_0, wl_26, wt_27_0, wl_28, wt_29_0, wt_30_0, wt_30_1, wt_30_2, wt_30_3, wt_30_4, wt_30_5, wt_31_0, wt_31_1, wt_31_2, wt_31_3, wt_31_4, wt_32_0, wl_33, wt_34_0, wl_35, wt_36_0, wl_37, wt_38_0, wl_39, wt_40_0, wt_40_1, wt_40_2, wt_41_0, wl_42, wt_43_0, wl_44, wt_45_0, wl_46, wt_48_0, wt_48_1, wt_49_0, wt_49_1, wt_49_2, wt_50_0, wl_51, wt_52_0, wl_53, wt_54_0, wl_55, wt_56_6, wt_56_7, wt_56_8, wt_56_13, wt_56_14, wt_56_15, wt_56_16, wt_56_18, wt_56_21, wt_56_22, wt_56_23, wt_56_24, wt_56_25, wt_56_26, wt_56_27, wt_56_44, wt_56_45, wt_56_46, wt_56_47, wt_56_48, wt_56_49, wt_56_50, wt_56_51, wt_56_52, wt_56_53, wl_57, wl_58, wl_59, wl_60, wl_61, wl_62, wl_63, wl_64, wl_65, wl_66, wl_67, wl_68, wl_69, wl_70, wl_71, wl_72, wl_73, wl_74, wl_75, wl_76, wl_77, wl_78, wl_79, wl_80, wl_81, wl_82, inb_nI hk (show 4 < 2 ^ 31 by decide), if_true, nz0]
      rw [nI_clamp (by omega), nI_1], fun j i1 i2 => by rw [mput_cell i2, mput_cell i1, hs.1 j i1 i2], fun i hi => by
      by_cases z : i = k
      · subst z
        rw [mput_cell (by decide), mput_same, mput_same]
        exact ⟨rfl, rfl⟩
      · rw [mput_cell (by decide), mput_slot z, mput_slot z, mput_cell (by decide)]
        exact hs.2 i (by omega)⟩) 4 9999 0 t0 (by omega) (by omega) ⟨fun _ _ _ => rfl, fun i hi => by omega⟩
  have ea' : L_RM_clear_58 56 9999 0 t0 = some a := ea
  refine ⟨a.2, by rw [ea', Option.bind_some], fun k i1 i2 i3 => ?_, fun j i1 i2 => ?_, ?_, h2⟩
  · rw [h1 k i2 i3, ← h0]
    simp only [mput_cell i1]
  · rw [h1 56 (by decide) (by decide), ← h0, mput_slot (by omega), mput_slot (by omega), mput_slot (by omega), mput_slot (by omega), mput_slot (by omega), mput_slot (by omega), mput_slot (by omega), mput_slot (by omega), mput_slot (by omega), mput_slot (by omega), mput_slot (by omega)]
  · rw [h1 56 (by decide) (by decide), ← h0]
    simp only [mput_same, mput_slot, Nat.reduceEqDiff, not_false_eq_true]
    exact ⟨trivial, trivial, trivial, trivial, trivial, trivial, trivial, trivial, trivial, trivial⟩
set_option maxRecDepth 100000 in
set_option maxHeartbeats 4000000 in
theorem r_start {σ τ : Mem} {m : Nat} (hm : m ≤ 6000) : ∃ s t, f_SR_begin 30 σ = some s ∧ f_RM_clear 56 τ = some t ∧ RS σ τ m 0 s t := by
  obtain ⟨t, et, h1, h2, ⟨u28, u30, u31, u32, u33, u37, u38, u39, u40, u41⟩, h3⟩ := r_clear (τ := τ)
  refine ⟨_, t, c_begin, et, ⟨?_, ?_, ?_⟩, ⟨0, 0, 0, 0, 64, 4, 0, 0, 0, ⟨?_, ?_, ?_, ?_, ?_, ?_⟩, by omega⟩, ?_, u32, by omega⟩
  · intro k hk
    rw [mput_cell (by omega), mput_cell (by omega), mput_cell (by omega), mput_cell (by omega), fillr_cell (by omega), mput_cell (by omega), mput_cell (by omega), mput_cell (by omega), mput_cell (by omega), mput_cell (by omega), mput_cell (by omega), fillr_cell (by omega), fillr_cell (by omega), mput_cell (by omega), mput_cell (by omega), mput_cell (by omega), mput_cell (by omega)]
  · intro k i1 i2
    exact h1 k i1 (by omega) (by omega)
  · intro j hj
    exact h2 j (by omega) (by omega)
  · unfold RHf
    simp only [fillr_cell, mput_same, mput_slot, mput_cell, Nat.reduceEqDiff, not_false_eq_true]
    exact ⟨⟨rfl, rfl, rfl, rfl⟩, u37, fun _ => u33, fun z => absurd trivial z, by omega⟩
  · unfold RHp
    simp only [fillr_cell, mput_same, mput_slot, mput_cell, Nat.reduceEqDiff, not_false_eq_true]
    exact ⟨⟨rfl, rfl, rfl⟩, ⟨u38, u39, u40⟩, by omega, by omega, by omega⟩
  · unfold RHn
    simp only [fillr_cell, mput_same, mput_slot, mput_cell, Nat.reduceEqDiff, not_false_eq_true]
    exact ⟨⟨rfl, u41, by omega⟩, fun k hk => by omega⟩
  · unfold RHt
    simp only [fillr_cell, fillr_row, mput_same, mput_slot, mput_cell, Nat.reduceEqDiff, not_false_eq_true]
    refine ⟨fun k hk => ?_, fun _ k hk => ?_, fun k v hk => by omega⟩
    · rw [if_pos hk, (h3 k hk).1]
      exact ⟨rfl, Or.inl rfl⟩
    · rw [if_pos hk]
  · unfold RHs
    simp only [fillr_cell, fillr_row, mput_same, mput_slot, mput_cell, Nat.reduceEqDiff, not_false_eq_true]
    refine ⟨fun k hk => ?_, fun k x y hk => by omega, ⟨rfl, u31, by omega⟩, fun _ k hk => ?_, fun z => absurd trivial z⟩
    · rw [if_pos hk, (h3 k hk).2]
    · rw [if_pos hk]
  · unfold RHz
    simp only [fillr_cell, mput_same, mput_slot, mput_cell, Nat.reduceEqDiff, not_false_eq_true]
    exact ⟨u30.symm, trivial, u28, trivial⟩
  · simp only [mput_same, mput_slot, Nat.reduceEqDiff, not_false_eq_true]
    rfl
set_option maxRecDepth 100000 in
set_option maxHeartbeats 4000000 in
/-- the frames of a reading keep all but what was read -/
theorem Rel.read {σ τ σ1 τ1 : Mem} (H : Rel σ τ) (hσ : ∀ k, (k < 30 ∨ 56 ≤ k) → σ1 k = σ k) (hτ : ∀ k, 57 ≤ k → k < 65 → τ1 k = τ k) (h56 : ∀ j, ¬ (j = 1 ∨ j = 20 ∨ (28 ≤ j ∧ j ≤ 64)) → τ1 56 j = τ 56 j) (hR : RRd σ1 τ1) : Rel σ1 τ1 := by
  obtain ⟨⟨t, hT⟩, ⟨w, h, b, c, nn, rs, st, rt, hQ⟩, ⟨n, hW⟩, ⟨m, hC⟩, -⟩ := H
  exact ⟨⟨t, hT.congr (hσ 0 (by decide)) (h56 0 (by omega))⟩, ⟨w, h, b, c, nn, rs, st, rt, hQ.congr (fun k _ _ => hσ k (by omega)) (fun j _ _ => h56 j (by omega)) (fun k _ _ => hτ k (by omega) (by omega))⟩, ⟨n, hW.congr (hσ 17 (by decide)) (hσ 18 (by decide)) (hσ 29 (by decide)) (h56 17 (by omega)) (hτ 63 (by decide) (by decide))⟩, ⟨m, hC.congr (hσ 19 (by decide)) (hσ 20 (by decide)) (h56 19 (by omega)) (hτ 64 (by decide) (by decide))⟩, hR⟩
set_option maxRecDepth 100000 in
set_option maxHeartbeats 4000000 in
theorem both_rd {σ τ s t : Mem} {v w : Int32} (h1 : v = w) (h2 : FrC σ s) (h3 : FrR τ t) (h4 : Rel s t) : Both (some (v, s)) (some (w, t)) (fun a q => a.1 = q.1 ∧ FrC σ a.2 ∧ FrR τ q.2 ∧ Rel a.2 q.2) := ⟨_, _, rfl, rfl, h1, h2, h3, h4⟩
set_option maxRecDepth 100000 in
set_option maxHeartbeats 4000000 in
theorem r_read {σ τ : Mem} (H : Rel σ τ) : Both (f_LF_read 0 σ) (f_RM_read 56 τ) (fun a q => a.1 = q.1 ∧ FrC σ a.2 ∧ FrR τ q.2 ∧ Rel a.2 q.2) := by
  obtain ⟨-, -, -, ⟨m, c1, c2, c3, c4, c5⟩, -⟩ := id H
  have H0 : Rel σ (mput τ 56 1 0) := H.thr
  have B : RB σ (mput τ 56 1 0) m (fun i => (σ 20 i).toNatClampNeg) := by
    refine ⟨c1, by rw [mput_slot (by decide), c2], c3, fun i hi => ?_⟩
    obtain ⟨v, hv, ev⟩ := c5 i (by omega)
    have e : (σ 20 i).toNatClampNeg = v := by rw [ev, nI_clamp (by omega)]
    refine ⟨?_, ?_, ?_⟩
    · show (σ 20 i).toNatClampNeg ≤ 255
      omega
    · show σ 20 i = nI (σ 20 i).toNatClampNeg
      rw [e, ev]
    · show mput τ 56 1 0 64 i = nI (σ 20 i).toNatClampNeg
      rw [mput_cell (by decide), e, ← c4 i (by omega), ev]
  obtain ⟨s, t, es, et, hS⟩ := r_start (σ := σ) (τ := mput τ 56 1 0) c3
  rw [f_LF_read, wt_0_5, wt_30_1, wt_30_2, es, Option.bind_some, f_RM_read, lt_eq, et, Option.bind_some]
  refine both_bind (r_loop B m 0 0 9999 9999 s t (by omega) (by omega) (by omega) (by omega) hS) (fun A D H1 => ?_)
  simp only [lt_eq, mput_same]
  have badF : ∀ u : Mem, FTm σ (mput τ 56 1 0) A.2 u → Both (some ((if A.2 30 7 = 0 then (-1 : Int32) - f_FA_place 47 A.2 else A.2 31 8), A.2)) (if (if u 56 28 = 0 then (1 : Int32) else 0) = 0 then some ((-1 : Int32) - mput u 56 20 (if u 56 28 = 0 then 1 else 0) 56 29, mput u 56 20 (if u 56 28 = 0 then 1 else 0)) else (f_RM_keep 56 (mput u 56 20 (if u 56 28 = 0 then 1 else 0))).bind fun σ112 => some (σ112 56 37, σ112)) (fun a q => a.1 = q.1 ∧ FrC σ a.2 ∧ FrR τ q.2 ∧ Rel a.2 q.2) := by
    intro u hF
    have hu : ¬ u 56 28 = 0 := by rw [← hF.2.1]; exact hF.2.2.1
    obtain ⟨F, g1, g2, g3, g4, g5, g6, g7⟩ := hF
    rw [if_neg hu, if_pos rfl, g6, if_pos rfl, mput_slot (by decide)]
    refine both_rd ?_ (fun k hk => F.1 k (by omega)) (fun k hk => ?_) ?_
    · show (-1 : Int32) - A.2 47 1 = -1 - u 56 29
      rw [g3]
    · rw [mput_cell (by omega), F.2.1 k (by omega) (by omega), mput_cell (by omega)]
    · refine Rel.read H0 F.1 (fun k i1 i2 => by rw [mput_cell (by omega), F.2.1 k (by omega) (by omega)]) (fun j hj => by rw [mput_slot (by omega), F.2.2 j (by omega)]) ⟨?_, Or.inl g6, ?_, ?_, ?_, Or.inl g6⟩
      · rw [mput_same, g6]
      · rw [mput_slot (by decide), g1]
      · rw [mput_slot (by decide), g4]
      · rw [mput_slot (by decide), g5]
  rcases H1 with H1 | ⟨p1, e28, e32, hp1, H1⟩
  · rw [if_neg (show ¬ D.2 56 28 = 0 by rw [← H1.2.1]; exact H1.2.2.1)]
    exact badF D.2 H1
  · rw [e28, if_pos rfl, e32]
    rcases H1 with ⟨k1, F, k3, w, h, b, c, rs, st, rt, nn, sc, hc0, hall, Hf, Hp, Hn, Ht, Hs, k4, k5⟩ | ⟨k1, τ1, k2, k3⟩
    · have d19 : D.2 56 19 = nI m := by rw [F.2.2 19 (by omega), mput_slot (by decide), c2]
      rw [d19, if_pos (nI_le (show m ≤ p1 by omega) (by omega)), k3, if_neg (show ¬ (1 : Int32) = 0 by decide), if_pos rfl, if_neg (show ¬ (1 : Int32) = 0 by decide)]
      obtain ⟨v, ev, v0, ⟨w0, w1, w2, w3, w4, w5, w6, w7, w8, w9⟩, y1, y2, y3, y4, y5⟩ := rm_keep (τ := mput D.2 56 20 1)
      rw [ev, Option.bind_some]
      have v56 : ∀ j, v 56 j = mput D.2 56 20 1 56 j := fun j => by rw [v0 56 (by omega)]
      obtain ⟨⟨p5, p6, p7, p8⟩, q37, -, qf, hc4⟩ := Hf
      obtain ⟨⟨f33, f34, f35, f36⟩, hw1, hw2, hh1, hh2, hb1, hb2⟩ := qf hc0
      obtain ⟨⟨r1, r2, r3⟩, ⟨t1, t2, t3⟩, -⟩ := Hp
      obtain ⟨⟨n1, n2, n3⟩, n4⟩ := Hn
      obtain ⟨i1, i2, i3⟩ := Ht
      obtain ⟨j1, j2, ⟨j3, j4, j5⟩, j6, j7⟩ := Hs
      have hpw := pow_le hb2
      have sc0 : ¬ sc = 0 := fun z => hall 0 (by omega) (j6 z 0 (by omega))
      obtain ⟨⟨x10, x11⟩, -⟩ := j7 sc0
      have nz0 : nz 0 = 0 := by decide
      have nz1 : nz 1 = 1 := by decide
      refine both_rd ?_ (fun k hk => F.1 k (by omega)) (fun k hk => ?_) ?_
      · show A.2 31 8 = v 56 37
        rw [p8, v56, mput_slot (by decide), q37]
      · rw [v0 k (by omega), mput_cell (by omega), F.2.1 k (by omega) (by omega), mput_cell (by omega)]
      · refine Rel.read H0 F.1 (fun k i1 i2 => by rw [v0 k (by omega), mput_cell (by omega), F.2.1 k (by omega) (by omega)]) (fun j hj => by rw [v56, mput_slot (by omega), F.2.2 j (by omega)]) ⟨?_, Or.inr k3, ?_, ?_, ?_, Or.inr ⟨w, h, b, c, nn, ?_⟩⟩
        · rw [v56, mput_same, k3]
        · rw [v56, mput_slot (by decide), k5, e28]
        · rw [v56, mput_slot (by decide), k4]
        · rw [v56, mput_slot (by decide), j3, j4]
        · refine ⟨⟨p5, p6, p7, p8⟩, ⟨?_, ?_, ?_, ?_⟩, ⟨hw1, hw2, hh1, hh2, hb1, hb2, by omega, hc4⟩, ⟨?_, ?_, ?_, ?_, ?_⟩, ⟨n1, ?_, n3⟩, ?_, ?_, ?_, ?_⟩
          · rw [w0, mput_slot (by decide), f34]
          · rw [w1, mput_slot (by decide), f35]
          · rw [w2, mput_slot (by decide), f36]
          · rw [w3, mput_slot (by decide), q37]
          · rw [w4, mput_slot (by decide), x10]
          · rw [w5, mput_slot (by decide), x11]
          · rw [w6, mput_slot (by decide), t1, r1]
          · rw [w7, mput_slot (by decide), t2, r2]
          · rw [w8, mput_slot (by decide), t3, r3]
          · rw [w9, mput_slot (by decide), n2]
          · intro k x y hk hx hy
            obtain ⟨z, hz, z1, z2⟩ := j2 k x y hk (hall k hk) hx hy
            exact ⟨z, hz, z1, by rw [y1 _ (by omega), mput_cell (by decide), z2]⟩
          · intro i hi
            rw [y3 i hi, mput_cell (by decide), ← (i1 i hi).1]
            rcases (i1 i hi).2 with z | z
            · rw [z, nz0]
            · rw [z, nz1]
          · intro k z hk hz hz2
            rw [y2 _ (by omega), mput_cell (by decide), i3 k z hk hz hz2]
          · intro k hk
            obtain ⟨o1, z, hz, o2, o3, o4⟩ := n4 k hk
            refine ⟨by rw [(y4 k (by omega)).1, mput_cell (by decide), o1], z, hz, o2, by rw [(y4 k (by omega)).2, mput_cell (by decide), o3], fun i hi => by rw [y5 _ (by omega), mput_cell (by decide), o4 i hi]⟩
    · have d19 : D.2 56 19 = nI m := by
        have z := k3.1.2.2 19 (by omega)
        have z2 : τ1 56 19 = D.2 56 19 := by
          have z3 : τ1 = (f_RM_broken 56 9 (nI p1) D.2).2 := by rw [k2]
          rw [z3, f_RM_broken, e28, if_pos rfl, lt_eq, lt_eq]
          show mput (mput D.2 56 28 9) 56 29 (nI p1) 56 19 = _
          rw [mput_slot (by decide), mput_slot (by decide)]
        rw [← z2, z, mput_slot (by decide), c2]
      rw [d19, if_neg (nI_ge k1 (by omega)), k2]
      exact badF τ1 k3
set_option maxRecDepth 100000 in
set_option maxHeartbeats 4000000 in
theorem o_read : O_read Inv := by
  intro σ hI
  obtain ⟨q0, -, e0, -, -, f0, -, -⟩ := r_read hI
  have H : Rel σ q0.2 := hI.congr (fun _ _ => rfl) (fun k h1 _ => f0 k h1)
  obtain ⟨q1, q2, e1, e2, e3, f1, f2, f3⟩ := r_read H
  rw [e0] at e1
  have : q0 = q1 := Option.some.inj e1
  subst this
  exact ⟨q0, q2, e0, e2, e3, f3.inv f2 (fun _ _ => rfl)⟩
set_option maxRecDepth 100000 in
set_option maxHeartbeats 4000000 in
theorem owed_all : Owed Inv := ⟨o_picture, o_put, o_preset, o_table, o_note, o_byteOf, o_write, o_byteAt, o_feed, o_pass, o_alter, o_read, o_at, o_found, o_noteAt, o_told, o_drop⟩
