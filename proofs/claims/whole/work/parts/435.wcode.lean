/-! writing: runs of bits, codes, the end of a run -/
set_option maxRecDepth 100000 in
set_option maxHeartbeats 4000000 in
theorem neg_1 {x : Int32} : x + (-1 : Int32) = x - 1 := (Int32.sub_eq_add_neg x 1).symm
set_option maxRecDepth 100000 in
set_option maxHeartbeats 4000000 in
theorem down_1 {k : Nat} (h : 0 < k) : nI k - 1 = nI (k - 1) := nI_sub (b := 1) h
set_option maxRecDepth 100000 in
set_option maxHeartbeats 4000000 in
theorem down_neg : nI 0 - 1 < 0 := by decide
set_option maxRecDepth 100000 in
set_option maxHeartbeats 4000000 in
theorem w_bits {σ0 τ0 σ τ : Mem} {ne tp rs st fr B k : Nat} {T : Nat → Nat → Nat → Prop} {E : (Nat → Int32) → (Nat → Int32) → (Nat → Int32) → (Nat → Int32) → Prop} {x : Int32} (H : WX σ0 τ0 σ τ ne tp rs st fr T E B) (hB : B + k + 7 ≤ 42000) (hk : k ≤ 32) : Both (f_BK_bits 29 x (nI k) σ) (f_RM_lowBits 56 x (nI k) τ) (fun a b => WX σ0 τ0 a b ne tp rs st fr T E (B + k)) := by
  obtain ⟨a, b, ea, eb, h9⟩ : Both (L_BK_bits_4 29 x (nI k) 9999 (nI k - 1) σ) (L_RM_lowBits_4 56 x (nI k) 9999 (nI k - 1) τ) (fun a b => WX σ0 τ0 a.2 b.2 ne tp rs st fr T E (B + k)) := by
    refine loopB (C := fun f j s => L_BK_bits_4 29 x (nI k) f (nI (k - j) - 1) s) (R := fun f j t => L_RM_lowBits_4 56 x (nI k) f (nI (k - j) - 1) t) (P := fun j s t => WX σ0 τ0 s t ne tp rs st fr T E (B + j)) (hi := k) ?_ ?_ k 9999 9999 0 σ τ (by omega) (by omega) (by omega) H
    · intro s t hs f g
      refine ⟨(nI (k - k) - 1, s), (nI (k - k) - 1, t), ?_, ?_, hs⟩
      · show L_BK_bits_4 29 x (nI k) (f + 1) (nI (k - k) - 1) s = _
        rw [L_BK_bits_4, if_pos (by rw [Nat.sub_self]; exact down_neg)]
      · show L_RM_lowBits_4 56 x (nI k) (g + 1) (nI (k - k) - 1) t = _
        rw [L_RM_lowBits_4, if_pos (by rw [Nat.sub_self]; exact down_neg)]
    · intro j s t hj hs
      left
      obtain ⟨t1, e1, h1⟩ := w_bit (x := (x >>> (nI (k - j - 1) &&& 31)) &&& 1) hs (by omega) (and_1 _)
      refine ⟨_, t1, fun f => ?_, fun f => ?_, h1⟩
      · show L_BK_bits_4 29 x (nI k) (f + 1) (nI (k - j) - 1) s = L_BK_bits_4 29 x (nI k) f (nI (k - (j + 1)) - 1) _
        rw [down_1 (by omega), bits_step (nI_pos (by omega)), neg_1, show k - (j + 1) = k - j - 1 by omega]
      · show L_RM_lowBits_4 56 x (nI k) (f + 1) (nI (k - j) - 1) t = L_RM_lowBits_4 56 x (nI k) f (nI (k - (j + 1)) - 1) _
        rw [down_1 (by omega), L_RM_lowBits_4, if_neg (nI_pos (by omega)), e1, Option.bind_some, neg_1, show k - (j + 1) = k - j - 1 by omega]
  exact ⟨a.2, b.2, by rw [f_BK_bits, ea, Option.bind_some], by rw [f_RM_lowBits, eb, Option.bind_some], h9⟩
set_option maxRecDepth 100000 in
set_option maxHeartbeats 4000000 in
theorem zero_shr (x : Int32) (r : Nat) (hr : r < 32) : (0 : Int32) >>> (nI r &&& 31) &&& 1 = 0 := by
  rw [show (0 : Int32) = nI 0 from rfl, nI_shr (by decide) hr, Nat.zero_div]
  decide
set_option maxRecDepth 100000 in
set_option maxHeartbeats 4000000 in
theorem w_zeros {σ0 τ0 σ τ : Mem} {ne tp rs st fr B k : Nat} {T : Nat → Nat → Nat → Prop} {E : (Nat → Int32) → (Nat → Int32) → (Nat → Int32) → (Nat → Int32) → Prop} {p1 p2 p3 p4 p5 p6 p7 p8 p9 : Int32} (H : WX σ0 τ0 σ τ ne tp rs st fr T E B) (hB : B + k + 7 ≤ 42000) (hk : k ≤ 32) : Both (f_BK_bits 29 0 (nI k) σ) (L_RM_tell_190 56 p1 p2 p3 p4 p5 p6 p7 p8 p9 (nI k) 9999 0 τ) (fun a b => WX σ0 τ0 a b.2 ne tp rs st fr T E (B + k)) := by
  obtain ⟨a, b, ea, eb, h9⟩ : Both (L_BK_bits_4 29 0 (nI k) 9999 (nI k - 1) σ) (L_RM_tell_190 56 p1 p2 p3 p4 p5 p6 p7 p8 p9 (nI k) 9999 0 τ) (fun a b => WX σ0 τ0 a.2 b.2 ne tp rs st fr T E (B + k)) := by
    refine loopB (C := fun f j s => L_BK_bits_4 29 0 (nI k) f (nI (k - j) - 1) s) (R := fun f j t => L_RM_tell_190 56 p1 p2 p3 p4 p5 p6 p7 p8 p9 (nI k) f (nI j) t) (P := fun j s t => WX σ0 τ0 s t ne tp rs st fr T E (B + j)) (hi := k) ?_ ?_ k 9999 9999 0 σ τ (by omega) (by omega) (by omega) H
    · intro s t hs f g
      refine ⟨(nI (k - k) - 1, s), (nI k, t), ?_, ?_, hs⟩
      · show L_BK_bits_4 29 0 (nI k) (f + 1) (nI (k - k) - 1) s = _
        rw [L_BK_bits_4, if_pos (by rw [Nat.sub_self]; exact down_neg)]
      · show L_RM_tell_190 56 p1 p2 p3 p4 p5 p6 p7 p8 p9 (nI k) (g + 1) (nI k) t = _
        rw [L_RM_tell_190, if_pos (nI_le (Nat.le_refl _) (by omega))]
    · intro j s t hj hs
      left
      obtain ⟨t1, e1, h1⟩ := w_bit (x := 0) hs (by omega) (Or.inl rfl)
      refine ⟨_, t1, fun f => ?_, fun f => ?_, h1⟩
      · show L_BK_bits_4 29 0 (nI k) (f + 1) (nI (k - j) - 1) s = L_BK_bits_4 29 0 (nI k) f (nI (k - (j + 1)) - 1) _
        rw [down_1 (by omega), bits_step (nI_pos (by omega)), neg_1, show k - (j + 1) = k - j - 1 by omega, zero_shr 0 _ (by omega)]
      · show L_RM_tell_190 56 p1 p2 p3 p4 p5 p6 p7 p8 p9 (nI k) (f + 1) (nI j) t = _
        rw [L_RM_tell_190, if_neg (nI_ge hj (by omega)), e1, Option.bind_some, nI_1]
  exact ⟨a.2, b, by rw [f_BK_bits, ea, Option.bind_some], eb, h9⟩
set_option maxRecDepth 100000 in
set_option maxHeartbeats 4000000 in
theorem w_one {σ0 τ0 σ τ : Mem} {ne tp rs st fr B : Nat} {T : Nat → Nat → Nat → Prop} {E : (Nat → Int32) → (Nat → Int32) → (Nat → Int32) → (Nat → Int32) → Prop} (H : WX σ0 τ0 σ τ ne tp rs st fr T E B) (hB : B + 7 ≤ 42000) : Both (f_BK_bits 29 1 1 σ) (f_RM_bit 56 1 τ) (fun a b => WX σ0 τ0 a b ne tp rs st fr T E (B + 1)) := by
  obtain ⟨t1, e1, h1⟩ := w_bit (x := 1) H hB (Or.inr rfl)
  refine ⟨c_bit 1 σ, t1, ?_, e1, h1⟩
  rw [f_BK_bits, show (1 : Int32) - 1 = nI 0 from by decide, bits_step (n := 9998) (nI_pos (by decide)), show (1 : Int32) >>> (nI 0 &&& 31) &&& 1 = 1 by decide, L_BK_bits_4, if_pos (by decide), Option.bind_some]
set_option maxRecDepth 100000 in
set_option maxHeartbeats 4000000 in
theorem w_code {σ0 τ0 σ τ : Mem} {ne tp rs st fr B e r : Nat} {T : Nat → Nat → Nat → Prop} {E : (Nat → Int32) → (Nat → Int32) → (Nat → Int32) → (Nat → Int32) → Prop} {p1 p2 p3 p4 p5 p6 p7 p8 p9 : Int32} (H : WX σ0 τ0 σ τ ne tp rs st fr T E B) (hB : B + 40 ≤ 42000) (he : e < 2 ^ 31) (hr : r ≤ 12) : Both (f_BK_code 29 (nI e) (nI r) σ) ((L_RM_tell_190 56 p1 p2 p3 p4 p5 p6 p7 p8 p9 (if (20 : Int32) ≤ nI e >>> (nI r &&& 31) then 20 else nI e >>> (nI r &&& 31)) 9999 0 τ).bind fun q => (f_RM_bit 56 1 q.2).bind fun t => if (20 : Int32) ≤ (if (20 : Int32) ≤ nI e >>> (nI r &&& 31) then 20 else nI e >>> (nI r &&& 31)) then f_RM_lowBits 56 (nI e) 9 t else f_RM_lowBits 56 (nI e) (nI r) t) (fun a b => WX σ0 τ0 a b ne tp rs st fr T E (B + 32)) := by
  have hw : ∀ {k : Nat} {s t : Mem}, k ≤ B + 32 → WX σ0 τ0 s t ne tp rs st fr T E k → WX σ0 τ0 s t ne tp rs st fr T E (B + 32) := by
    rintro k s t hk ⟨n, cur, u, m, h1, h2⟩
    exact ⟨n, cur, u, m, by omega, h2⟩
  have hq : e / 2 ^ r < 2 ^ 31 := Nat.lt_of_le_of_lt (Nat.div_le_self _ _) he
  rw [nI_shr he (by omega), f_BK_code, nI_shr he (by omega)]
  by_cases h20 : 20 ≤ e / 2 ^ r
  · have l20 : (20 : Int32) ≤ nI (e / 2 ^ r) := nI_le (a := 20) h20 hq
    simp only [l20, if_true, show (20 : Int32) ≤ 20 by decide]
    refine both_bind (w_zeros (k := 20) H (by omega) (by omega)) (fun a b h1 => ?_)
    refine both_bind (w_one h1 (by omega)) (fun a2 b2 h2 => ?_)
    obtain ⟨a3, b3, ea, eb, h3⟩ := w_bits (k := 9) (x := nI e) h2 (by omega) (by omega)
    exact ⟨a3, b3, by rw [show (9 : Int32) = nI 9 from rfl, ea, Option.bind_some], eb, hw (by omega) h3⟩
  · have l20 : ¬ (20 : Int32) ≤ nI (e / 2 ^ r) := nI_ge (b := 20) (by omega) (by decide)
    simp only [l20, if_false]
    refine both_bind (w_zeros (k := e / 2 ^ r) H (by omega) (by omega)) (fun a b h1 => ?_)
    refine both_bind (w_one h1 (by omega)) (fun a2 b2 h2 => ?_)
    obtain ⟨a3, b3, ea, eb, h3⟩ := w_bits (k := r) (x := nI e) h2 (by omega) (by omega)
    exact ⟨a3, b3, by rw [ea, Option.bind_some], eb, hw (by omega) h3⟩
set_option maxRecDepth 100000 in
set_option maxHeartbeats 4000000 in
theorem nI_shl {v r : Nat} (hr : r < 32) (hv : v * 2 ^ r < 2 ^ 31) : nI v <<< (nI r &&& 31) = nI (v * 2 ^ r) := by
  have h1 : 1 ≤ 2 ^ r := Nat.one_le_two_pow
  have h2 : v ≤ v * 2 ^ r := Nat.le_mul_of_pos_right v h1
  rw [← Int32.toBitVec_inj, Int32.toBitVec_shiftLeft]
  apply BitVec.eq_of_toNat_eq
  have e : ∀ x, x < 2 ^ 31 → (nI x).toBitVec.toNat = x := by
    intro x hx
    show (BitVec.ofNat 32 x).toNat = x
    rw [BitVec.toNat_ofNat, Nat.mod_eq_of_lt (by omega)]
  rw [BitVec.shiftLeft_eq', BitVec.toNat_shiftLeft, shn_31 r hr, e _ (by omega), e _ hv, Nat.shiftLeft_eq, Nat.mod_eq_of_lt (by omega)]
set_option maxRecDepth 100000 in
set_option maxHeartbeats 4000000 in
theorem rm_bit1 {τ : Mem} {cur u m : Nat} (d1 : τ 56 57 = nI cur) (d2 : τ 56 58 = nI u) (d3 : τ 56 59 = nI m) (hm : m ≤ 8) (hu : u + 1 < m) : f_RM_bit 56 0 τ = some (mput (mput τ 56 57 (nI (2 * cur))) 56 58 (nI (u + 1))) := by
  have e2 : 2 * nI cur + 0 = nI (2 * cur) := by
    rw [show (2 : Int32) = nI 2 from rfl, nI_mul, Int32.add_zero]
  rw [f_RM_bit]
  simp only [lt_eq, mput_same, mput_slot, mput_cell, Nat.reduceEqDiff, not_false_eq_true, d1, d2, d3, e2, nI_1]
  rw [if_neg]
  intro z
  have := nI_inj (by omega) (by omega) z
  omega
set_option maxRecDepth 100000 in
set_option maxHeartbeats 4000000 in
theorem rm_bit2 {τ : Mem} {cur u m n : Nat} (d0 : τ 56 17 = nI n) (d1 : τ 56 57 = nI cur) (d2 : τ 56 58 = nI u) (d3 : τ 56 59 = nI m) (hn : n < 9000) (hu : u + 1 = m) : f_RM_bit 56 0 τ = some (mput (mput (mput (mput (mput (mput (mput τ 56 57 (nI (2 * cur))) 56 58 (nI (u + 1))) 63 n (nI (2 * cur))) 56 17 (nI (n + 1))) 56 59 (if nI (2 * cur) = 255 then 7 else 8)) 56 57 0) 56 58 0) := by
  have e2 : 2 * nI cur + 0 = nI (2 * cur) := by
    rw [show (2 : Int32) = nI 2 from rfl, nI_mul, Int32.add_zero]
  rw [f_RM_bit]
  simp only [lt_eq, mput_same, mput_slot, mput_cell, Nat.reduceEqDiff, not_false_eq_true, d1, d2, d3, e2, nI_1]
  rw [if_pos (by rw [hu]), rm_lay (n := n) (by simp only [mput_slot, Nat.reduceEqDiff, not_false_eq_true, d0]) hn, Option.bind_some]
  simp only [mput_same, mput_slot, mput_cell, Nat.reduceEqDiff, not_false_eq_true]
set_option maxRecDepth 100000 in
set_option maxHeartbeats 4000000 in
theorem fill_bits : ∀ (d f n cur u m : Nat) (τ : Mem), u + d = m → 1 ≤ d → 1 ≤ u → m ≤ 8 → n < 9000 → τ 56 17 = nI n → τ 56 57 = nI cur → τ 56 58 = nI u → τ 56 59 = nI m → ∃ τ1, L_RM_fill_0 56 (f + d + 1) τ = some τ1 ∧ τ1 63 = upd (τ 63) n (nI (cur * 2 ^ d)) ∧ τ1 56 17 = nI (n + 1) ∧ τ1 56 57 = 0 ∧ τ1 56 58 = 0 ∧ τ1 56 59 = (if nI (cur * 2 ^ d) = 255 then 7 else 8) ∧ (∀ k, ¬ k = 56 → ¬ k = 63 → τ1 k = τ k) ∧ ∀ j, ¬ j = 17 → ¬ (57 ≤ j ∧ j ≤ 59) → τ1 56 j = τ 56 j := by
  intro d
  induction d with
  | zero => intro f n cur u m τ _ h; omega
  | succ d ih =>
    intro f n cur u m τ h1 h2 h3 h4 h5 d0 d1 d2 d3
    have lp : ¬ nI u ≤ 0 := nI_ge (a := 0) (b := u) (by omega) (by omega)
    by_cases hd : d = 0
    · subst hd
      refine ⟨_, by rw [show f + (0 + 1) + 1 = f + 1 + 1 by omega, L_RM_fill_0, d2, if_neg lp, rm_bit2 d0 d1 d2 d3 h5 h1, Option.bind_some, L_RM_fill_0, if_pos (by rw [mput_same]; decide)], ?_, ?_, ?_, ?_, ?_, ?_, ?_⟩
      · simp only [mput_cell, Nat.reduceEqDiff, not_false_eq_true, mput_row]
        rw [show cur * 2 ^ (0 + 1) = 2 * cur by omega]
      · simp only [mput_same, mput_slot, Nat.reduceEqDiff, not_false_eq_true]
      · simp only [mput_same, mput_slot, Nat.reduceEqDiff, not_false_eq_true]
      · simp only [mput_same]
      · simp only [mput_same, mput_slot, Nat.reduceEqDiff, not_false_eq_true]
        rw [show cur * 2 ^ (0 + 1) = 2 * cur by omega]
      · intro k hk1 hk2
        simp only [mput_cell hk1, mput_cell hk2]
      · intro j hj1 hj2
        rw [mput_slot (by omega), mput_slot (by omega), mput_slot (by omega), mput_slot (by omega), mput_cell (by omega), mput_slot (by omega), mput_slot (by omega)]
    · obtain ⟨τ1, g0, g1, g2, g3, g4, g5, g6, g7⟩ := ih f n (2 * cur) (u + 1) m (mput (mput τ 56 57 (nI (2 * cur))) 56 58 (nI (u + 1))) (by omega) (by omega) (by omega) h4 h5 (by rw [mput_slot (by decide), mput_slot (by decide), d0]) (by rw [mput_slot (by decide), mput_same]) (by rw [mput_same]) (by rw [mput_slot (by decide), mput_slot (by decide), d3])
      have ec : cur * 2 ^ (d + 1) = 2 * cur * 2 ^ d := by rw [Nat.pow_succ, Nat.mul_comm 2 cur, Nat.mul_assoc, Nat.mul_comm (2 ^ d) 2]
      refine ⟨τ1, by rw [show f + (d + 1) + 1 = (f + d + 1) + 1 by omega, L_RM_fill_0, d2, if_neg lp, rm_bit1 d1 d2 d3 h4 (by omega), Option.bind_some, g0], by rw [g1, ec, mput_cell (by decide), mput_cell (by decide)], g2, g3, g4, by rw [g5, ec], ?_, ?_⟩
      · intro k hk1 hk2
        rw [g6 k hk1 hk2, mput_cell hk1, mput_cell hk1]
      · intro j hj1 hj2
        rw [g7 j hj1 hj2, mput_slot (by omega), mput_slot (by omega)]
/-- between two runs of bits -/
def WX0 (σ0 τ0 σ τ : Mem) (ne tp rs st fr : Nat) (T : Nat → Nat → Nat → Prop) (E : (Nat → Int32) → (Nat → Int32) → (Nat → Int32) → (Nat → Int32) → Prop) (n : Nat) : Prop := WS 0 σ0 τ0 σ τ n ∧ WB σ τ 0 0 8 ∧ WM σ τ ne tp rs st fr T E
set_option maxRecDepth 100000 in
set_option maxHeartbeats 4000000 in
theorem w_close {σ0 τ0 σ τ : Mem} {ne tp rs st fr B : Nat} {T : Nat → Nat → Nat → Prop} {E : (Nat → Int32) → (Nat → Int32) → (Nat → Int32) → (Nat → Int32) → Prop} (H : WX σ0 τ0 σ τ ne tp rs st fr T E B) (hB : B + 7 ≤ 42000) : Both (some (f_BK_close 29 σ)) (f_RM_fill 56 τ) (fun a b => ∃ n, 7 * n ≤ B + 7 ∧ WX0 σ0 τ0 a b ne tp rs st fr T E n) := by
  obtain ⟨n, cur, u, m, hb, hs, ⟨⟨c1, c2⟩, ⟨d1, d2, d3⟩, hu, hm, hc⟩, hM⟩ := H
  by_cases h8 : u = 0 ∧ m = 8
  · obtain ⟨rfl, rfl⟩ := h8
    have hc0 : cur = 0 := by omega
    subst hc0
    have e1 : f_BK_close 29 σ = mput (mput σ 29 1 0) 29 2 8 := by
      rw [f_BK_close]
      simp only [lt_eq]
      rw [c2, if_pos (by decide)]
    have e2 : f_RM_fill 56 τ = some (mput τ 56 59 8) := by
      rw [f_RM_fill, L_RM_fill_0, d2, if_pos (by decide), Option.bind_some]
      simp only [lt_eq]
      rw [d3, if_neg (by decide)]
    refine ⟨_, _, congrArg some e1, e2, n, by omega, ⟨(hs.1.put (by decide)).put (by decide), hs.2.1.put56 (by decide), ?_⟩, ?_, ?_⟩
    · obtain ⟨g1, g2, g3, g4, g5⟩ := hs.2.2
      unfold RSt
      simp only [mput_slot, mput_cell, Nat.reduceEqDiff, not_false_eq_true]
      exact ⟨g1, g2, g3, g4, g5⟩
    · unfold WB
      simp only [mput_slot, mput_same, Nat.reduceEqDiff, not_false_eq_true]
      exact ⟨⟨rfl, rfl⟩, ⟨d1, d2, rfl⟩, by decide, by decide, by decide⟩
    · refine hM.congr ?_ ?_ ?_ ?_ ?_ ?_ ?_ ?_
      all_goals simp only [mput_slot, mput_cell, Nat.reduceEqDiff, not_false_eq_true]
  · have l8 : ¬ (8 : Int32) ≤ nI (m - u) := nI_ge (b := 8) (by omega) (by decide)
    have hp : cur * 2 ^ (m - u) < 256 := by
      have : cur * 2 ^ (m - u) < 2 ^ u * 2 ^ (m - u) := Nat.mul_lt_mul_of_pos_right hc (Nat.two_pow_pos _)
      rw [← Nat.pow_add, show u + (m - u) = m by omega] at this
      exact Nat.lt_of_lt_of_le this (pow_le (by omega))
    have e0 : nI cur <<< (nI (m - u) &&& 31) = nI (cur * 2 ^ (m - u)) := nI_shl (by omega) (by omega)
    have e1 : f_BK_close 29 σ = mput (mput (mput (mput σ 18 n (nI (cur * 2 ^ (m - u)))) 17 1 (nI (n + 1))) 29 1 0) 29 2 8 := by
      rw [f_BK_close]
      simp only [lt_eq]
      rw [c1, c2, if_neg l8, wt_29_0, e0, w_add hs.2.2.1 (by omega)]
    have hby : byt (nI (cur * 2 ^ (m - u))) := byt_n (by omega)
    have h1 := hs.lay (by omega) hby
    have hR : ∃ τ1, f_RM_fill 56 τ = some τ1 ∧ τ1 63 = upd (τ 63) n (nI (cur * 2 ^ (m - u))) ∧ τ1 56 17 = nI (n + 1) ∧ τ1 56 57 = 0 ∧ τ1 56 58 = 0 ∧ τ1 56 59 = 8 ∧ (∀ k, ¬ k = 56 → ¬ k = 63 → τ1 k = τ k) ∧ ∀ j, ¬ j = 17 → ¬ (57 ≤ j ∧ j ≤ 59) → τ1 56 j = τ 56 j := by
      by_cases hu0 : u = 0
      · have hm7 : m = 7 := by omega
        subst hu0 hm7
        have hc0 : cur = 0 := by omega
        subst hc0
        refine ⟨mput (mput (mput τ 63 n 0) 56 17 (nI (n + 1))) 56 59 8, ?_, ?_, ?_, ?_, ?_, ?_, ?_, ?_⟩
        · rw [f_RM_fill, L_RM_fill_0, d2, if_pos (by decide), Option.bind_some]
          simp only [lt_eq]
          rw [d3, if_pos (by decide), rm_lay hs.2.2.2.1 (by omega), Option.bind_some]
        · simp only [mput_cell, mput_row, Nat.reduceEqDiff, not_false_eq_true, Nat.zero_mul]
          rfl
        · simp only [mput_same, mput_slot, Nat.reduceEqDiff, not_false_eq_true]
        · simp only [mput_same, mput_slot, mput_cell, Nat.reduceEqDiff, not_false_eq_true, d1]
          rfl
        · simp only [mput_same, mput_slot, mput_cell, Nat.reduceEqDiff, not_false_eq_true, d2]
          rfl
        · simp only [mput_same]
        · intro k hk1 hk2
          simp only [mput_cell hk1, mput_cell hk2]
        · intro j hj1 hj2
          rw [mput_slot (by omega), mput_slot (by omega), mput_cell (by omega)]
      · obtain ⟨τ1, g0, g1, g2, g3, g4, g5, g6, g7⟩ := fill_bits (m - u) (9998 - (m - u)) n cur u m τ (by omega) (by omega) (by omega) (by omega) (by omega) hs.2.2.2.1 d1 d2 d3
        have ev : ¬ nI (cur * 2 ^ (m - u)) = 255 := by
          intro z
          have z2 := nI_inj (b := 255) (by omega) (by decide) z
          have : 2 ^ (m - u) = 2 * 2 ^ (m - u - 1) := by
            rw [show m - u = (m - u - 1) + 1 by omega, Nat.pow_succ, Nat.mul_comm]
            rfl
          rw [this, Nat.mul_left_comm] at z2
          omega
        rw [if_neg ev] at g5
        refine ⟨mput τ1 56 59 8, ?_, ?_, ?_, ?_, ?_, ?_, ?_, ?_⟩
        · rw [f_RM_fill, show 9999 = 9998 - (m - u) + (m - u) + 1 by omega, g0, Option.bind_some]
          simp only [lt_eq]
          rw [g5, if_neg (by decide)]
        · rw [mput_cell (by decide), g1]
        · rw [mput_slot (by decide), g2]
        · rw [mput_slot (by decide), g3]
        · rw [mput_slot (by decide), g4]
        · rw [mput_same]
        · intro k hk1 hk2
          rw [mput_cell hk1, g6 k hk1 hk2]
        · intro j hj1 hj2
          rw [mput_slot (by omega), g7 j hj1 hj2]
    obtain ⟨τ1, g0, g1, g2, g3, g4, g5, g6, g7⟩ := hR
    refine ⟨_, τ1, congrArg some e1, g0, n + 1, by omega, ⟨(h1.1.put (by decide)).put (by decide), ⟨fun k hk => by rw [g6 k (by omega) (by omega), hs.2.1.1 k hk], fun j hj => by rw [g7 j (by omega) (by omega), hs.2.1.2 j hj]⟩, ?_⟩, ?_, ?_⟩
    · obtain ⟨i1, i2, i3, i4, i5⟩ := h1.2.2
      unfold RSt
      simp only [mput_slot, mput_cell, mput_row, Nat.reduceEqDiff, not_false_eq_true] at i1 i4 i5 ⊢
      exact ⟨i1, g2, i3, by rw [g1]; exact i4, i5⟩
    · unfold WB
      simp only [mput_slot, mput_same, Nat.reduceEqDiff, not_false_eq_true, g3, g4, g5]
      exact ⟨⟨rfl, rfl⟩, ⟨rfl, rfl, rfl⟩, by decide, by decide, by decide⟩
    · refine hM.congr ?_ ?_ ?_ ?_ (g7 56 (by decide) (by decide)) (g6 80 (by decide) (by decide)) (g6 81 (by decide) (by decide)) (g6 79 (by decide) (by decide))
      all_goals simp only [mput_slot, mput_cell, Nat.reduceEqDiff, not_false_eq_true]
