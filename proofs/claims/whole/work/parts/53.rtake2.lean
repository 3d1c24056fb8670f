/-! reading: frame, presets, tables, restarts, notes -/
set_option maxRecDepth 100000 in
set_option maxHeartbeats 4000000 in
theorem RFr.put {σ0 τ0 σ τ : Mem} {k j : Nat} {v : Int32} (F : RFr σ0 τ0 σ τ) (hk : 65 ≤ k ∧ k < 82) : RFr σ0 τ0 σ (mput τ k j v) := ⟨F.1, fun a h1 h2 => by rw [mput_cell (by omega), F.2.1 a h1 h2], fun i hi => by rw [mput_cell (by omega), F.2.2 i hi]⟩
set_option maxRecDepth 100000 in
set_option maxHeartbeats 4000000 in
theorem RFr.put56 {σ0 τ0 σ τ : Mem} {j : Nat} {v : Int32} (F : RFr σ0 τ0 σ τ) (hj : j = 20 ∨ (28 ≤ j ∧ j ≤ 64)) : RFr σ0 τ0 σ (mput τ 56 j v) := ⟨F.1, fun a h1 h2 => by rw [mput_cell h1, F.2.1 a h1 h2], fun i hi => by rw [mput_slot (by intro z; subst z; exact hi hj), F.2.2 i hi]⟩
set_option maxRecDepth 100000 in
set_option maxHeartbeats 4000000 in
theorem RFr.putC {σ0 τ0 σ τ : Mem} {k j : Nat} {v : Int32} (F : RFr σ0 τ0 σ τ) (hk : 30 ≤ k ∧ k < 56) : RFr σ0 τ0 (mput σ k j v) τ := ⟨fun a ha => by rw [mput_cell (by omega), F.1 a ha], F.2⟩
set_option maxRecDepth 100000 in
set_option maxHeartbeats 4000000 in
theorem isIn_n {x lo hi : Nat} {τ : Mem} (hx : x < 2 ^ 31) (h1 : lo < 2 ^ 31) (h2 : hi < 2 ^ 31) : f_RM_isIn (nI x) (nI lo) (nI hi) τ = if lo ≤ x ∧ x ≤ hi then 1 else 0 := by
  rw [isIn_1]
  by_cases z1 : lo ≤ x
  · by_cases z2 : x ≤ hi
    · rw [if_neg (Int32.not_lt.mpr (nI_le z1 hx)), if_neg (Int32.not_lt.mpr (nI_le z2 h2)), if_pos (show lo ≤ x ∧ x ≤ hi from ⟨z1, z2⟩)]
    · rw [if_neg (Int32.not_lt.mpr (nI_le z1 hx)), if_pos (show nI hi < nI x from nI_lt (by omega) hx), if_neg (show ¬ (lo ≤ x ∧ x ≤ hi) from fun z => z2 z.2)]
  · rw [if_pos (show nI x < nI lo from nI_lt (by omega) h1), if_neg (show ¬ (lo ≤ x ∧ x ≤ hi) from fun z => z1 z.1)]
set_option maxRecDepth 100000 in
set_option maxHeartbeats 4000000 in
theorem mm_n {w h b c : Nat} {σ : Mem} (h1 : w < 2 ^ 31) (h2 : h < 2 ^ 31) (h3 : b < 2 ^ 31) (h4 : c < 2 ^ 31) : f_PI_mayMeasure (nI w) (nI h) (nI b) (nI c) σ = if (2 ≤ b ∧ b ≤ 8) ∧ (1 ≤ h ∧ h ≤ 12) ∧ (1 ≤ w ∧ w ≤ 12) ∧ (1 ≤ c ∧ c ≤ 4) then 1 else 0 := by
  have a1 : nI w < 1 ↔ w < 1 := nI_lti (b := 1) h1 (by decide)
  have a2 : 12 < nI w ↔ 12 < w := nI_lti (a := 12) (by decide) h1
  have a3 : nI h < 1 ↔ h < 1 := nI_lti (b := 1) h2 (by decide)
  have a4 : 12 < nI h ↔ 12 < h := nI_lti (a := 12) (by decide) h2
  have a5 : nI b < 2 ↔ b < 2 := nI_lti (b := 2) h3 (by decide)
  have a6 : 8 < nI b ↔ 8 < b := nI_lti (a := 8) (by decide) h3
  have a7 : nI c < 1 ↔ c < 1 := nI_lti (b := 1) h4 (by decide)
  have a8 : 4 < nI c ↔ 4 < c := nI_lti (a := 4) (by decide) h4
  unfold f_PI_mayMeasure
  simp only [a1, a2, a3, a4, a5, a6, a7, a8]
  by_cases z : (2 ≤ b ∧ b ≤ 8) ∧ (1 ≤ h ∧ h ≤ 12) ∧ (1 ≤ w ∧ w ≤ 12) ∧ (1 ≤ c ∧ c ≤ 4)
  · rw [if_pos z, if_neg (by omega), if_neg (by omega), if_neg (by omega), if_neg (by omega), if_neg (by omega), if_neg (by omega), if_neg (by omega), if_neg (by omega)]
  · rw [if_neg z]
    repeat' split
    all_goals first | rfl | omega
set_option maxRecDepth 100000 in
set_option maxHeartbeats 4000000 in
theorem r_frame {σ0 τ0 σ τ : Mem} {m p w h b rs st rt nn sc L : Nat} {d : Nat → Nat} (B : RB σ0 τ0 m d) (F : RFr σ0 τ0 σ τ) (H : RH σ τ w h b 0 rs st rt nn sc) (e32 : τ 56 32 = nI p) (hL : L = 256 * d (p + 2) + d (p + 3)) (h2 : 2 ≤ L) (hm : p + 2 + L ≤ m) :
    Both (f_SR_takeFrame 30 (nI p) (nI L) σ) (f_RM_isFrame 56 τ) (TK σ0 τ0 σ τ p) := by
  obtain ⟨Hf, Hp, Hn, Ht, Hs, Hz⟩ := id H
  have m6 : m ≤ 6000 := B.2.2.1
  have E : ∀ k : Nat, nI p + nI k = nI (p + k) := fun k => nI_add p k
  have e2 : nI p + 2 = nI (p + 2) := E 2
  have e4 : nI p + 4 = nI (p + 4) := E 4
  have e5 : nI p + 5 = nI (p + 5) := E 5
  have e7 : nI p + 7 = nI (p + 7) := E 7
  have e9 : nI p + 9 = nI (p + 9) := E 9
  rw [f_SR_takeFrame, f_RM_isFrame, e32, e2, rd_wr B F (show p + 2 + 1 < m by omega), Option.bind_some, show p + 2 + 1 = p + 3 from rfl, ← hL, wt_30_0, wt_30_1, wt_56_18, wl_64, e4, e5, e7, e9]
  simp only [lt_eq]
  by_cases h8 : L < 8
  · rw [if_pos (show nI L < 8 from nI_lt (b := 8) h8 (by decide)), if_pos (show nI L < 8 from nI_lt (b := 8) h8 (by decide))]
    rw [e32]
    exact both_ret (Or.inl ⟨3, by decide, rfl, rfl⟩)
  have l8 : ¬ nI L < 8 := Int32.not_lt.mpr (nI_le (a := 8) (by omega) (by omega))
  have d4 := (B.2.2.2 (p + 4) (by omega)).1
  have d5 := (B.2.2.2 (p + 5) (by omega)).1
  have d6 := (B.2.2.2 (p + 6) (by omega)).1
  have d7 := (B.2.2.2 (p + 7) (by omega)).1
  have d8 := (B.2.2.2 (p + 8) (by omega)).1
  have d9 := (B.2.2.2 (p + 9) (by omega)).1
  have e83 : (8 : Int32) + 3 * nI (d (p + 9)) = nI (8 + 3 * d (p + 9)) := by rw [show (3 : Int32) = nI 3 from rfl, show (8 : Int32) = nI 8 from rfl, nI_mul, nI_add]
  rw [if_neg l8, if_neg l8, if_pos (rd_i B (show p + 9 < m by omega)), rd_r B F (show p + 9 < m by omega), rd_c B F (show p + 9 < m by omega), e83]
  by_cases hq : L = 8 + 3 * d (p + 9)
  · have hqq : nI L = nI (8 + 3 * d (p + 9)) := by rw [← hq]
    rw [if_pos hqq, if_pos hqq, if_pos (rd_i B (show p + 4 < m by omega)), rd_r B F (show p + 4 < m by omega), rd_c B F (show p + 4 < m by omega), rd_wc B F (show p + 5 + 1 < m by omega), rd_wc B F (show p + 7 + 1 < m by omega), rd_wr B F (show p + 5 + 1 < m by omega), rd_wr B F (show p + 7 + 1 < m by omega), if_pos (rd_i B (show p + 9 < m by omega))]
    simp only [Option.bind_some]
    rw [show p + 5 + 1 = p + 6 from rfl, show p + 7 + 1 = p + 8 from rfl]
    generalize hhh : 256 * d (p + 5) + d (p + 6) = h1
    generalize hww : 256 * d (p + 7) + d (p + 8) = w1
    generalize hbb : d (p + 4) = b1 at d4
    generalize hcc : d (p + 9) = c1 at d9 hq
    have i1 : f_RM_isIn (nI b1) 2 8 τ = if 2 ≤ b1 ∧ b1 ≤ 8 then 1 else 0 := isIn_n (lo := 2) (hi := 8) (by omega) (by decide) (by decide)
    have i2 : f_RM_isIn (nI h1) 1 12 τ = if 1 ≤ h1 ∧ h1 ≤ 12 then 1 else 0 := isIn_n (lo := 1) (hi := 12) (by omega) (by decide) (by decide)
    have i3 : f_RM_isIn (nI w1) 1 12 τ = if 1 ≤ w1 ∧ w1 ≤ 12 then 1 else 0 := isIn_n (lo := 1) (hi := 12) (by omega) (by decide) (by decide)
    have i4 : f_RM_isIn (nI c1) 1 4 τ = if 1 ≤ c1 ∧ c1 ≤ 4 then 1 else 0 := isIn_n (lo := 1) (hi := 4) (by omega) (by decide) (by decide)
    rw [mm_n (by omega) (by omega) (by omega) (by omega), i1, i2, i3, i4]
    have bad : ∃ x, L_RM_isFrame_135 56 (nI L) τ 9999 0 0 = some x ∧ x.1 = 0 := by
      rw [L_RM_isFrame_135, e32, e9, wt_56_18, wl_64, if_pos (rd_i B (show p + 9 < m by omega))]
      by_cases z : τ 64 (nI (p + 9)).toNatClampNeg ≤ 0
      · rw [if_pos z]
        exact ⟨_, rfl, rfl⟩
      · rw [if_neg z, if_pos rfl]
        exact ⟨_, rfl, rfl⟩
    obtain ⟨x0, ex0, hx0⟩ := bad
    have flt : Both (some ((4 : Int32), σ)) (some ((f_RM_broken 56 4 (nI p) τ).1, (f_RM_broken 56 4 (nI p) τ).2)) (TK σ0 τ0 σ τ p) := both_ret (Or.inl ⟨4, by decide, rfl, rfl⟩)
    by_cases z : (2 ≤ b1 ∧ b1 ≤ 8) ∧ (1 ≤ h1 ∧ h1 ≤ 12) ∧ (1 ≤ w1 ∧ w1 ≤ 12) ∧ (1 ≤ c1 ∧ c1 ≤ 4)
    · obtain ⟨z1, z2, z3, z4⟩ := z
      simp only [z1, z2, z3, z4, and_self, if_true, show ¬ (1 : Int32) = 0 by decide, if_false]
      obtain ⟨a, q, ea, eq, h9⟩ := r_parts (b2 := nI L) (b4 := nI b1) (b5 := nI h1) (b6 := nI w1) (b1 := nI L) B F e32 z4.2 hcc (by omega)
      rw [ea, eq, Option.bind_some, Option.bind_some]
      rcases h9 with ⟨g1, g2⟩ | ⟨g1, g2⟩
      · subst g1
        rw [if_neg g2]
        show Both (some ((0 : Int32), f_PI_measure 31 (nI w1) (nI h1) (nI b1) (nI c1) σ)) _ _
        have F1 : RFr σ0 τ0 σ (mput τ 56 33 1) := F.put56 (by decide)
        have F2 : RFr σ0 τ0 σ (mput (mput τ 56 33 1) 56 36 (nI b1)) := F1.put56 (by decide)
        have F3 : RFr σ0 τ0 σ (mput (mput (mput τ 56 33 1) 56 36 (nI b1)) 56 35 (nI h1)) := F2.put56 (by decide)
        have F4 : RFr σ0 τ0 σ (mput (mput (mput (mput τ 56 33 1) 56 36 (nI b1)) 56 35 (nI h1)) 56 34 (nI w1)) := F3.put56 (by decide)
        simp only [mput_slot, Nat.reduceEqDiff, not_false_eq_true, e32, e4, e5, e7, e9]
        rw [if_pos (rd_i B (show p + 4 < m by omega)), rd_r B F1 (show p + 4 < m by omega), hbb, rd_wr B F2 (show p + 5 + 1 < m by omega), Option.bind_some, show p + 5 + 1 = p + 6 from rfl, hhh, rd_wr B F3 (show p + 7 + 1 < m by omega), Option.bind_some, show p + 7 + 1 = p + 8 from rfl, hww, if_pos (rd_i B (show p + 9 < m by omega)), rd_r B F4 (show p + 9 < m by omega), hcc]
        rw [f_PI_measure]
        simp only [lt_eq]
        refine both_ret (Or.inr ⟨rfl, rfl, ?_, ?_, ?_, w1, h1, b1, c1, rs, st, rt, nn, sc, ?_⟩)
        · exact (((((F4.put56 (by decide)).putC (by decide)).putC (by decide)).putC (by decide)).putC (by decide))
        · simp only [mput_cell, Nat.reduceEqDiff, not_false_eq_true]
        · simp only [mput_slot, Nat.reduceEqDiff, not_false_eq_true]
        · have sc0 : sc = 0 := by
            by_cases z9 : sc = 0
            · exact z9
            · obtain ⟨k, hk, -⟩ := (Hs.2.2.2.2 z9).2
              omega
          refine ⟨?_, ?_, ?_, ?_, ?_, ?_⟩
          · unfold RHf
            simp only [mput_same, mput_slot, Nat.reduceEqDiff, not_false_eq_true]
            exact ⟨⟨trivial, trivial, trivial, trivial⟩, trivial, fun z9 => by omega, fun _ => ⟨⟨trivial, trivial, trivial, trivial⟩, z3.1, z3.2, z2.1, z2.2, z1.1, z1.2⟩, z4.2⟩
          · unfold RHp at Hp ⊢
            simp only [mput_slot, mput_cell, Nat.reduceEqDiff, not_false_eq_true]
            exact Hp
          · unfold RHn at Hn ⊢
            simp only [mput_slot, mput_cell, Nat.reduceEqDiff, not_false_eq_true]
            exact Hn
          · obtain ⟨i1, i2, i3⟩ := Ht
            have i4 := i2 rfl
            unfold RHt
            simp only [mput_slot, mput_cell, Nat.reduceEqDiff, not_false_eq_true]
            exact ⟨i1, fun _ => i4, fun k v hk hz _ => absurd (i4 k (by omega)) hz⟩
          · obtain ⟨i1, i2, i3, i4, i5⟩ := Hs
            unfold RHs
            simp only [mput_slot, mput_cell, Nat.reduceEqDiff, not_false_eq_true]
            exact ⟨i1, fun k x y hk hz => absurd (i4 sc0 k (by omega)) hz, i3, i4, fun z9 => absurd sc0 z9⟩
          · unfold RHz at Hz ⊢
            simp only [mput_slot, mput_cell, Nat.reduceEqDiff, not_false_eq_true]
            exact Hz
      · subst g1
        rw [if_pos g2]
        exact flt
    · rw [if_neg z, if_pos rfl]
      have flt2 : ∀ g : Int32 × Int32 → Option (Int32 × Mem), Both (some ((4 : Int32), σ)) ((L_RM_isFrame_135 56 (nI L) τ 9999 0 0).bind fun q270 => if q270.1 = 0 then some ((f_RM_broken 56 4 (nI p) τ).1, (f_RM_broken 56 4 (nI p) τ).2) else g q270) (TK σ0 τ0 σ τ p) := by
        intro g
        rw [ex0, Option.bind_some, if_pos hx0]
        exact flt
      by_cases z1 : 2 ≤ b1 ∧ b1 ≤ 8
      · by_cases z2 : 1 ≤ h1 ∧ h1 ≤ 12
        · by_cases z3 : 1 ≤ w1 ∧ w1 ≤ 12
          · by_cases z4 : 1 ≤ c1 ∧ c1 ≤ 4
            · exact absurd ⟨z1, z2, z3, z4⟩ z
            · simp only [z1, z2, z3, z4, and_self, if_true, if_false, show ¬ (1 : Int32) = 0 by decide]
              exact flt2 _
          · simp only [z1, z2, z3, and_self, if_true, if_false, show ¬ (1 : Int32) = 0 by decide]
            exact flt2 _
        · simp only [z1, z2, and_self, if_true, if_false, show ¬ (1 : Int32) = 0 by decide]
          exact flt2 _
      · simp only [z1, if_true, if_false]
        exact flt2 _
  · have hq2 : ¬ nI L = nI (8 + 3 * d (p + 9)) := fun z => hq (nI_inj (by omega) (by omega) z)
    rw [if_neg hq2, if_neg hq2, e32]
    exact both_ret (Or.inl ⟨3, by decide, rfl, rfl⟩)
