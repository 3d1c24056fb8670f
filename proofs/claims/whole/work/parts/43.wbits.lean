/-! writing: bits side by side -/
set_option maxRecDepth 100000 in
set_option maxHeartbeats 4000000 in
theorem and_1 (x : Int32) : x &&& 1 = 0 ∨ x &&& 1 = 1 := by
  rw [← Int32.toBitVec_inj, ← Int32.toBitVec_inj, Int32.toBitVec_and]
  show x.toBitVec &&& 1#32 = 0#32 ∨ x.toBitVec &&& 1#32 = 1#32
  rw [BitVec.and_one_eq_setWidth_ofBool_getLsbD]
  cases x.toBitVec.getLsbD 0 <;> decide
set_option maxRecDepth 100000 in
set_option maxHeartbeats 4000000 in
theorem mput_same {σ : Mem} {k j : Nat} {v : Int32} : mput σ k j v k j = v := by rw [mput_app, if_pos ⟨rfl, rfl⟩]
set_option maxRecDepth 100000 in
set_option maxHeartbeats 4000000 in
theorem mput_slot {σ : Mem} {k j i : Nat} {v : Int32} (h : ¬ i = j) : mput σ k j v k i = σ k i := by rw [mput_app, if_neg (fun z => h z.2)]
/-- the bits that wait: cur of them u, a byte wants m -/
def WB (σ τ : Mem) (cur u m : Nat) : Prop := (σ 29 1 = nI cur ∧ σ 29 2 = nI (m - u)) ∧ (τ 56 57 = nI cur ∧ τ 56 58 = nI u ∧ τ 56 59 = nI m) ∧ u < m ∧ (m = 7 ∨ m = 8) ∧ cur < 2 ^ u
/-- the rest of what a scan keeps: the model of the class, sums and numbers of both, what was told (T) -/
def WM (σ τ : Mem) (ne tp rs st fr : Nat) (T : Nat → Nat → Nat → Prop) (E : (Nat → Int32) → (Nat → Int32) → (Nat → Int32) → (Nat → Int32) → Prop) : Prop :=
  (σ 22 3 = nI tp ∧ σ 22 4 = nI ne ∧ σ 22 5 = nI (2 * ne + 1) ∧ σ 22 6 = nI ((tp + 2 * ne) / (2 * ne + 1) + 1) ∧ σ 22 7 = nI rs ∧ σ 22 8 = nI st) ∧ τ 56 56 = nI fr ∧ E (σ 26) (σ 28) (τ 80) (τ 81) ∧ ∀ c x y, T c x y → ∃ v, v ≤ 255 ∧ σ 24 (144 * c + 12 * y + x) = nI v ∧ τ 79 (144 * c + 12 * y + x) = nI v
def WX (σ0 τ0 σ τ : Mem) (ne tp rs st fr : Nat) (T : Nat → Nat → Nat → Prop) (E : (Nat → Int32) → (Nat → Int32) → (Nat → Int32) → (Nat → Int32) → Prop) (B : Nat) : Prop := ∃ n cur u m, 7 * n + u ≤ B ∧ WS 0 σ0 τ0 σ τ n ∧ WB σ τ cur u m ∧ WM σ τ ne tp rs st fr T E
set_option maxRecDepth 100000 in
set_option maxHeartbeats 4000000 in
theorem WM.congr {σ τ σ1 τ1 : Mem} {ne tp rs st fr : Nat} {T : Nat → Nat → Nat → Prop} {E : (Nat → Int32) → (Nat → Int32) → (Nat → Int32) → (Nat → Int32) → Prop} (h22 : σ1 22 = σ 22) (h26 : σ1 26 = σ 26) (h28 : σ1 28 = σ 28) (h24 : σ1 24 = σ 24) (h56 : τ1 56 56 = τ 56 56) (h80 : τ1 80 = τ 80) (h81 : τ1 81 = τ 81) (h79 : τ1 79 = τ 79) (H : WM σ τ ne tp rs st fr T E) : WM σ1 τ1 ne tp rs st fr T E := by
  unfold WM at H ⊢
  rw [h22, h26, h28, h24, h56, h80, h81, h79]
  exact H
/-- the class's way of one bit -/
def c_bit (x : Int32) (σ : Mem) : Mem :=
  lt (mput σ 29 1 (((σ 29 1) * (2 : Int32)) + x)) fun σ2 =>
  lt (mput σ2 29 2 ((σ2 29 2) - (1 : Int32))) fun σ3 =>
  if (σ3 29 2) = 0 then
  lt (f_BY_add 17 (σ3 29 1) σ3) fun σ13 =>
  lt (mput σ13 29 2 (if (σ13 29 1) = (255 : Int32) then (7 : Int32) else (8 : Int32))) fun σ16 =>
  mput σ16 29 1 (0 : Int32)
  else σ3
set_option maxRecDepth 100000 in
set_option maxHeartbeats 4000000 in
theorem bits_step {b1 b2 a : Int32} {n : Nat} {σ : Mem} (h : ¬ a < 0) : L_BK_bits_4 29 b1 b2 (n + 1) a σ = L_BK_bits_4 29 b1 b2 n (a + (-1 : Int32)) (c_bit ((b1 >>> (a &&& 31)) &&& 1) σ) := by
  rw [L_BK_bits_4, if_neg h, wt_29_0]
  unfold c_bit
  simp only [lt_eq]
  split <;> rfl
set_option maxRecDepth 100000 in
set_option maxHeartbeats 4000000 in
theorem w_bit {σ0 τ0 σ τ : Mem} {ne tp rs st fr B : Nat} {T : Nat → Nat → Nat → Prop} {E : (Nat → Int32) → (Nat → Int32) → (Nat → Int32) → (Nat → Int32) → Prop} {x : Int32} (H : WX σ0 τ0 σ τ ne tp rs st fr T E B) (hB : B + 7 ≤ 42000) (hx : x = 0 ∨ x = 1) : ∃ τ1, f_RM_bit 56 x τ = some τ1 ∧ WX σ0 τ0 (c_bit x σ) τ1 ne tp rs st fr T E (B + 1) := by
  obtain ⟨n, cur, u, m, hb, hs, ⟨⟨c1, c2⟩, ⟨d1, d2, d3⟩, hu, hm, hc⟩, hM⟩ := H
  obtain ⟨bt, hbt, rfl⟩ : ∃ v : Nat, v ≤ 1 ∧ x = nI v := by
    rcases hx with rfl | rfl
    · exact ⟨0, by omega, rfl⟩
    · exact ⟨1, by omega, rfl⟩
  have e1 : nI cur * 2 + nI bt = nI (2 * cur + bt) := by
    rw [show (2 : Int32) = nI 2 from rfl, nI_mul, nI_add]
    congr 1; omega
  have e2 : 2 * nI cur + nI bt = nI (2 * cur + bt) := by
    rw [show (2 : Int32) = nI 2 from rfl, nI_mul, nI_add]
  have hp : 2 ^ (u + 1) = 2 * 2 ^ u := by rw [Nat.pow_succ]; omega
  have hp8 : 2 ^ (u + 1) ≤ 256 := Nat.le_trans (Nat.pow_le_pow_right (n := 2) (by decide) (show u + 1 ≤ 8 by omega)) (by decide)
  have e3 : nI (m - u) - 1 = nI (m - u - 1) := nI_sub (b := 1) (by omega)
  have fa : ∀ v w, WS 0 σ0 τ0 (mput (mput σ 29 1 v) 29 2 w) τ n := fun v w => ⟨(hs.1.put (by decide)).put (by decide), hs.2.1, by
    unfold RSt
    simp only [mput_cell, Nat.reduceEqDiff, not_false_eq_true]
    exact hs.2.2⟩
  by_cases hl : u + 1 = m
  · have eb : byt (nI (2 * cur + bt)) := byt_n (by omega)
    have h1 : WS 0 σ0 τ0 (mput (mput σ 29 1 (nI (2 * cur + bt))) 29 2 (nI (m - u - 1))) (mput (mput τ 56 57 (nI (2 * cur + bt))) 56 58 (nI (u + 1))) n := ⟨(fa _ _).1, (hs.2.1.put56 (by decide)).put56 (by decide), by
      obtain ⟨g1, g2, g3, g4, g5⟩ := hs.2.2
      unfold RSt
      simp only [mput_row, mput_cell, Nat.reduceEqDiff, not_false_eq_true]
      exact ⟨g1, by simpa [upd] using g2, g3, g4, g5⟩⟩
    have h2 := h1.lay (by omega) eb
    have eC : c_bit (nI bt) σ = mput (mput (mput (mput (mput (mput σ 29 1 (nI (2 * cur + bt))) 29 2 (nI (m - u - 1))) 18 n (nI (2 * cur + bt))) 17 1 (nI (n + 1))) 29 2 (if nI (2 * cur + bt) = 255 then 7 else 8)) 29 1 0 := by
      unfold c_bit
      simp only [lt_eq, mput_same, mput_slot, mput_cell, Nat.reduceEqDiff, not_false_eq_true, c1, c2, e1, e3]
      rw [if_pos (by rw [show m - u - 1 = 0 by omega]; rfl), w_add h1.2.2.1 (by omega)]
      simp only [mput_same, mput_slot, mput_cell, Nat.reduceEqDiff, not_false_eq_true]
    have eR : f_RM_bit 56 (nI bt) τ = some (mput (mput (mput (mput (mput (mput (mput τ 56 57 (nI (2 * cur + bt))) 56 58 (nI (u + 1))) 63 n (nI (2 * cur + bt))) 56 17 (nI (n + 1))) 56 59 (if nI (2 * cur + bt) = 255 then 7 else 8)) 56 57 0) 56 58 0) := by
      rw [f_RM_bit]
      simp only [lt_eq, mput_same, mput_slot, mput_cell, Nat.reduceEqDiff, not_false_eq_true, d1, d2, d3, e2, nI_1]
      rw [if_pos (by rw [hl]), rm_lay h1.2.2.2.1 (by omega), Option.bind_some]
      simp only [mput_same, mput_slot, mput_cell, Nat.reduceEqDiff, not_false_eq_true]
    refine ⟨_, eR, n + 1, 0, 0, if nI (2 * cur + bt) = 255 then 7 else 8, by omega, ?_, ?_, ?_⟩
    · rw [eC]
      refine ⟨(h2.1.put (by decide)).put (by decide), ((h2.2.1.put56 (by decide)).put56 (by decide)).put56 (by decide), ?_⟩
      obtain ⟨g1, g2, g3, g4, g5⟩ := h2.2.2
      unfold RSt
      simp only [mput_row, mput_cell, Nat.reduceEqDiff, not_false_eq_true] at g1 g2 g4 g5 ⊢
      exact ⟨g1, by simpa [upd] using g2, g3, g4, g5⟩
    · rw [eC]
      unfold WB
      refine ⟨⟨by simp [mput_app]; rfl, ?_⟩, ⟨by simp [mput_app]; rfl, by simp [mput_app]; rfl, ?_⟩, ?_, ?_, by decide⟩
      · by_cases e : nI (2 * cur + bt) = 255 <;> simp [mput_app, e] <;> rfl
      · by_cases e : nI (2 * cur + bt) = 255 <;> simp [mput_app, e] <;> rfl
      · by_cases e : nI (2 * cur + bt) = 255 <;> simp [e]
      · by_cases e : nI (2 * cur + bt) = 255 <;> simp [e]
    · rw [eC]
      refine hM.congr ?_ ?_ ?_ ?_ ?_ ?_ ?_ ?_
      all_goals simp [mput_cell, mput_app]
  · have eC : c_bit (nI bt) σ = mput (mput σ 29 1 (nI (2 * cur + bt))) 29 2 (nI (m - u - 1)) := by
      unfold c_bit
      simp only [lt_eq, mput_same, mput_slot, mput_cell, Nat.reduceEqDiff, not_false_eq_true, c1, c2, e1, e3]
      rw [if_neg (nI_ne0 (by omega) (by omega))]
    have eR : f_RM_bit 56 (nI bt) τ = some (mput (mput τ 56 57 (nI (2 * cur + bt))) 56 58 (nI (u + 1))) := by
      rw [f_RM_bit]
      simp only [lt_eq, mput_same, mput_slot, mput_cell, Nat.reduceEqDiff, not_false_eq_true, d1, d2, d3, e2, nI_1]
      rw [if_neg]
      intro z
      exact hl (nI_inj (by omega) (by omega) z)
    refine ⟨_, eR, n, 2 * cur + bt, u + 1, m, by omega, ?_, ?_, ?_⟩
    · rw [eC]
      refine ⟨(fa _ _).1, (hs.2.1.put56 (by decide)).put56 (by decide), ?_⟩
      obtain ⟨g1, g2, g3, g4, g5⟩ := hs.2.2
      unfold RSt
      simp only [mput_row, mput_cell, Nat.reduceEqDiff, not_false_eq_true]
      exact ⟨g1, by simpa [upd] using g2, g3, g4, g5⟩
    · rw [eC]
      unfold WB
      refine ⟨⟨by simp [mput_app], by simp [mput_app]; congr 1⟩, ⟨by simp [mput_app], by simp [mput_app], by simp [mput_app, d3]⟩, by omega, hm, by omega⟩
    · rw [eC]
      refine hM.congr ?_ ?_ ?_ ?_ ?_ ?_ ?_ ?_
      all_goals simp [mput_cell, mput_app]
