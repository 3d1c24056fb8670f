/-! reading: what the two have in common -/
def RFr (σ0 τ0 σ τ : Mem) : Prop := (∀ k, (k < 30 ∨ 56 ≤ k) → σ k = σ0 k) ∧ (∀ k, ¬ k = 56 → (k < 65 ∨ 82 ≤ k) → τ k = τ0 k) ∧ ∀ j, ¬ (j = 20 ∨ (28 ≤ j ∧ j ≤ 64)) → τ 56 j = τ0 56 j
def RB (σ0 τ0 : Mem) (m : Nat) (d : Nat → Nat) : Prop := σ0 19 1 = nI m ∧ τ0 56 19 = nI m ∧ m ≤ 6000 ∧ ∀ i, i < m → d i ≤ 255 ∧ σ0 20 i = nI (d i) ∧ τ0 64 i = nI (d i)
/-- what was heard so far: frame, presets, notes, tables, components scanned, samples, scans -/
def RHf (σ τ : Mem) (w h b c : Nat) : Prop := (σ 31 5 = nI w ∧ σ 31 6 = nI h ∧ σ 31 7 = nI b ∧ σ 31 8 = nI c) ∧ τ 56 37 = nI c ∧ (c = 0 → τ 56 33 = 0) ∧ (¬ c = 0 → (τ 56 33 = 1 ∧ τ 56 34 = nI w ∧ τ 56 35 = nI h ∧ τ 56 36 = nI b) ∧ 1 ≤ w ∧ w ≤ 12 ∧ 1 ≤ h ∧ h ≤ 12 ∧ 2 ≤ b ∧ b ≤ 8) ∧ c ≤ 4
def RHp (σ τ : Mem) (rs st rt : Nat) : Prop := (σ 35 0 = nI rs ∧ σ 35 1 = nI st ∧ σ 35 2 = nI rt) ∧ (τ 56 38 = nI rs ∧ τ 56 39 = nI st ∧ τ 56 40 = nI rt) ∧ rs ≤ 255 ∧ st ≤ 255 ∧ rt ≤ 12
def RHn (σ τ : Mem) (nn : Nat) : Prop := (σ 40 3 = nI nn ∧ τ 56 41 = nI nn ∧ nn ≤ 6) ∧ ∀ k, k < nn → σ 42 k = τ 75 k ∧ ∃ z, z ≤ 30 ∧ σ 44 k = nI z ∧ τ 76 k = nI z ∧ ∀ i, i < z → σ 46 (30 * k + i) = τ 77 (30 * k + i)
def RHt (σ τ : Mem) (b c : Nat) : Prop := (∀ k, k < 4 → σ 37 k = τ 73 k ∧ (σ 37 k = 0 ∨ σ 37 k = 1)) ∧ (c = 0 → ∀ k, k < 4 → σ 37 k = 0) ∧ ∀ k v, k < c → ¬ σ 37 k = 0 → v < 2 ^ b → σ 39 (256 * k + v) = τ 74 (256 * k + v)
def RHs (σ τ : Mem) (w h b c sc : Nat) : Prop := (∀ k, k < 4 → (σ 55 k = 0 ↔ τ 78 k = 0)) ∧ (∀ k x y, k < c → ¬ σ 55 k = 0 → x < w → y < h → ∃ v, v < 2 ^ b ∧ σ 33 (144 * k + 12 * y + x) = nI v ∧ τ 72 (144 * k + 12 * y + x) = nI v) ∧ (σ 30 13 = nI sc ∧ τ 56 31 = nI sc ∧ sc ≤ 7000) ∧ (sc = 0 → ∀ k, k < 4 → σ 55 k = 0) ∧ (¬ sc = 0 → (σ 30 10 = τ 56 42 ∧ σ 30 11 = τ 56 43) ∧ ∃ k, k < c ∧ ¬ σ 55 k = 0)
def RHz (σ τ : Mem) : Prop := σ 30 12 = τ 56 30 ∧ σ 47 0 = 0 ∧ τ 56 28 = 0 ∧ σ 30 7 = 0
def RH (σ τ : Mem) (w h b c rs st rt nn sc : Nat) : Prop := RHf σ τ w h b c ∧ RHp σ τ rs st rt ∧ RHn σ τ nn ∧ RHt σ τ b c ∧ RHs σ τ w h b c sc ∧ RHz σ τ
/-- the fault has been met -/
def FTm (σ0 τ0 σ τ : Mem) : Prop := RFr σ0 τ0 σ τ ∧ σ 47 0 = τ 56 28 ∧ ¬ σ 47 0 = 0 ∧ σ 47 1 = τ 56 29 ∧ σ 30 12 = τ 56 30 ∧ σ 30 13 = τ 56 31 ∧ σ 30 7 = 0 ∧ ¬ τ 56 28 ≤ 0
set_option maxRecDepth 100000 in
set_option maxHeartbeats 4000000 in
theorem rd_c {σ0 τ0 σ τ : Mem} {m i : Nat} {d : Nat → Nat} (B : RB σ0 τ0 m d) (F : RFr σ0 τ0 σ τ) (hi : i < m) : f_BY_get 19 (nI i) σ = nI (d i) := by
  obtain ⟨b1, b2, b3, b4⟩ := B
  rw [by_get (k := 19) (a := 20) (m := m) wt_19_0 wl_20 (by rw [F.1 19 (by omega), b1]) hi b3, F.1 20 (by omega), (b4 i hi).2.1]
set_option maxRecDepth 100000 in
set_option maxHeartbeats 4000000 in
theorem rd_r {σ0 τ0 σ τ : Mem} {m i : Nat} {d : Nat → Nat} (B : RB σ0 τ0 m d) (F : RFr σ0 τ0 σ τ) (hi : i < m) : τ 64 (nI i).toNatClampNeg = nI (d i) := by
  obtain ⟨b1, b2, b3, b4⟩ := B
  rw [nI_clamp (by omega), F.2.1 64 (by omega) (by omega), (b4 i hi).2.2]
set_option maxRecDepth 100000 in
set_option maxHeartbeats 4000000 in
theorem rd_i {σ0 τ0 : Mem} {m i : Nat} {d : Nat → Nat} (B : RB σ0 τ0 m d) (hi : i < m) : inb (nI i) 6000 = true := inb_nI (by have := B.2.2.1; omega) (by decide)
set_option maxRecDepth 100000 in
set_option maxHeartbeats 4000000 in
theorem rd_s {σ0 τ0 σ τ : Mem} {m : Nat} {d : Nat → Nat} (B : RB σ0 τ0 m d) (F : RFr σ0 τ0 σ τ) : σ 19 1 = nI m ∧ τ 56 19 = nI m := ⟨by rw [F.1 19 (by omega), B.1], by rw [F.2.2 19 (by omega), B.2.1]⟩
set_option maxRecDepth 100000 in
set_option maxHeartbeats 4000000 in
theorem rd_wc {σ0 τ0 σ τ : Mem} {m i : Nat} {d : Nat → Nat} (B : RB σ0 τ0 m d) (F : RFr σ0 τ0 σ τ) (hi : i + 1 < m) : f_BY_wide 19 (nI i) σ = nI (256 * d i + d (i + 1)) := by
  rw [f_BY_wide, nI_1, rd_c B F (by omega), rd_c B F hi, nI_256]
set_option maxRecDepth 100000 in
set_option maxHeartbeats 4000000 in
theorem rd_wr {σ0 τ0 σ τ : Mem} {m i : Nat} {d : Nat → Nat} (B : RB σ0 τ0 m d) (F : RFr σ0 τ0 σ τ) (hi : i + 1 < m) : f_RM_wide 56 (nI i) τ = some (nI (256 * d i + d (i + 1))) := by
  rw [f_RM_wide, nI_1, wt_56_18, wl_64, if_pos (rd_i B (by omega)), if_pos (rd_i B hi), rd_r B F (by omega), rd_r B F hi, nI_256']
set_option maxRecDepth 100000 in
set_option maxHeartbeats 4000000 in
/-- both meet a fault -/
theorem ft_meet {σ0 τ0 σ τ : Mem} {f p : Int32} (F : RFr σ0 τ0 σ τ) (Z : RHz σ τ) (hs : σ 30 13 = τ 56 31) (hf : ¬ f ≤ 0) : ∃ σ1 τ1, f_FA_meet 47 f p σ = σ1 ∧ f_RM_broken 56 f p τ = (0, τ1) ∧ FTm σ0 τ0 σ1 τ1 := by
  obtain ⟨z1, z2, z3, z4⟩ := Z
  refine ⟨mput (mput σ 47 0 f) 47 1 p, mput (mput τ 56 28 f) 56 29 p, ?_, ?_, ⟨?_, ?_, ?_⟩, ?_, ?_, ?_, ?_, ?_, ?_, ?_⟩
  · rw [f_FA_meet, if_pos z2, lt_eq, lt_eq]
  · rw [f_RM_broken, if_pos z3, lt_eq, lt_eq]
  · intro k hk
    rw [mput_cell (by omega), mput_cell (by omega), F.1 k hk]
  · intro k h1 h2
    rw [mput_cell h1, mput_cell h1, F.2.1 k h1 h2]
  · intro j hj
    rw [mput_slot (by omega), mput_slot (by omega), F.2.2 j hj]
  all_goals simp only [mput_same, mput_slot, mput_cell, Nat.reduceEqDiff, not_false_eq_true]
  · exact fun z => hf (by rw [z]; decide)
  · exact z1
  · exact hs
  · exact z4
  · exact hf
set_option maxRecDepth 100000 in
set_option maxHeartbeats 4000000 in
/-- a class's memory with another 'next' -/
theorem FTm.next {σ0 τ0 σ τ : Mem} {v : Int32} (H : FTm σ0 τ0 σ τ) : FTm σ0 τ0 (mput σ 30 6 v) τ := by
  obtain ⟨F, h1, h2, h3, h4, h5, h6⟩ := H
  refine ⟨⟨fun k hk => by rw [mput_cell (by omega), F.1 k hk], F.2⟩, ?_⟩
  simp only [mput_same, mput_slot, mput_cell, Nat.reduceEqDiff, not_false_eq_true]
  exact ⟨h1, h2, h3, h4, h5, h6⟩
set_option maxRecDepth 100000 in
set_option maxHeartbeats 4000000 in
theorem FTm.met {σ0 τ0 σ τ : Mem} (H : FTm σ0 τ0 σ τ) : f_FA_met 47 σ = 1 := by
  rw [f_FA_met, if_neg H.2.2.1]
set_option maxRecDepth 100000 in
set_option maxHeartbeats 4000000 in
theorem RHz.met {σ τ : Mem} (H : RHz σ τ) : f_FA_met 47 σ = 0 := by
  rw [f_FA_met, if_pos H.2.1]
