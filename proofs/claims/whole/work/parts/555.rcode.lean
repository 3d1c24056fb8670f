/-! reading: runs of bits, codes -/
set_option maxRecDepth 100000 in
set_option maxHeartbeats 4000000 in
theorem FTm.cls {σ0 τ0 σ τ σ1 : Mem} (H : FTm σ0 τ0 σ τ) (h : ∀ k, (k ≤ 30 ∨ k = 47 ∨ 56 ≤ k) → σ1 k = σ k) : FTm σ0 τ0 σ1 τ := by
  obtain ⟨F, h1, h2, h3, h4, h5, h6⟩ := H
  refine ⟨⟨fun k hk => by rw [h k (by omega), F.1 k hk], F.2⟩, ?_⟩
  rw [h 47 (by omega), h 30 (by omega)]
  exact ⟨h1, h2, h3, h4, h5, h6⟩
set_option maxRecDepth 100000 in
set_option maxHeartbeats 4000000 in
theorem bo_stop {σ0 τ0 σ τ : Mem} {b1 a2 a3 : Int32} {n : Nat} (H : FTm σ0 τ0 σ τ) : L_BO_bits_4 48 b1 (n + 1) a2 a3 σ = some (a2, a3, σ) := by
  rw [L_BO_bits_4, wt_48_1, H.met, if_neg (show ¬ (1 : Int32) = 0 by decide)]
  split <;> rfl
set_option maxRecDepth 100000 in
set_option maxHeartbeats 4000000 in
theorem hb_stop {σ0 τ0 σ τ : Mem} {b1 a2 a3 : Int32} {n : Nat} (H : FTm σ0 τ0 σ τ) : L_RM_hearBits_4 56 b1 (n + 1) a2 a3 τ = some (a2, a3, τ) := by
  rw [L_RM_hearBits_4, if_neg (show ¬ τ 56 28 = 0 by rw [← H.2.1]; exact H.2.2.1)]
  split <;> rfl
set_option maxRecDepth 100000 in
set_option maxHeartbeats 4000000 in
theorem r_bits {σ0 τ0 σs τs σ τ : Mem} {m lo cn x cur lf k : Nat} {d : Nat → Nat} (S : BS σ0 τ0 σs τs m d) (HF : RXF σs τs σ τ lo cn) (Hb : RXb σ τ m x cur lf) (hk : k ≤ 12) :
    Both (f_BO_bits 48 (nI k) σ) (f_RM_hearBits 56 (nI k) τ) (fun a q => (∃ v x1 cur1 lf1, v < 2 ^ k ∧ a.1 = nI v ∧ q.1 = nI v ∧ KB σ τ a.2 q.2 ∧ RXb a.2 q.2 m x1 cur1 lf1 ∧ x ≤ x1) ∨ FTm σ0 τ0 a.2 q.2) := by
  obtain ⟨a, q, ea, eq, h9⟩ : Both (L_BO_bits_4 48 (nI k) 9999 0 0 σ) (L_RM_hearBits_4 56 (nI k) 9999 0 0 τ) (fun a q => (∃ v x1 cur1 lf1, v < 2 ^ k ∧ a.1 = nI v ∧ q.1 = nI v ∧ KB σ τ a.2.2 q.2.2 ∧ RXb a.2.2 q.2.2 m x1 cur1 lf1 ∧ x ≤ x1) ∨ FTm σ0 τ0 a.2.2 q.2.2) := by
    refine loopB2 (C := fun f j (s : Int32 × Mem) => L_BO_bits_4 48 (nI k) f s.1 (nI j) s.2) (R := fun f j (t : Int32 × Mem) => L_RM_hearBits_4 56 (nI k) f t.1 (nI j) t.2) (P := fun j s t => (∃ v x1 cur1 lf1, v < 2 ^ j ∧ s.1 = nI v ∧ t.1 = nI v ∧ KB σ τ s.2 t.2 ∧ RXb s.2 t.2 m x1 cur1 lf1 ∧ x ≤ x1) ∨ FTm σ0 τ0 s.2 t.2) (hi := k) ?_ ?_ k 9999 9999 0 (0, σ) (0, τ) (by omega) (by omega) (by omega) (Or.inl ⟨0, x, cur, lf, by decide, rfl, rfl, KB.refl, Hb, Nat.le_refl _⟩)
    · rintro s t hs f g
      refine ⟨(s.1, nI k, s.2), (t.1, nI k, t.2), ?_, ?_, hs⟩
      · show L_BO_bits_4 48 (nI k) (f + 1) s.1 (nI k) s.2 = _
        rw [L_BO_bits_4, if_pos (nI_le (Nat.le_refl _) (by omega))]
      · show L_RM_hearBits_4 56 (nI k) (g + 1 + 1) t.1 (nI k) t.2 = _
        rw [L_RM_hearBits_4, if_pos (nI_le (Nat.le_refl _) (by omega))]
    · rintro j s t hj hs
      rcases hs with ⟨v, x1, cur1, lf1, h1, h2, h3, h4, h5, h5x⟩ | hs
      · have hge : ¬ nI k ≤ nI j := nI_ge hj (by omega)
        have HF1 := h4.rxf HF
        obtain ⟨F1, Z1, hss1⟩ := HF1.fr S
        have e28 : t.2 56 28 = 0 := Z1.2.2.1
        rcases r_hear S HF1 h5 with ⟨bit, σ1, τ1, x2, cur2, lf2, g1, g2, g3, g4, g5, g6, g7, g8⟩ | ⟨σ1, τ1, g1, g2, g3⟩
        · left
          obtain ⟨bt, hbt, rfl⟩ : ∃ bt : Nat, bt ≤ 1 ∧ bit = nI bt := by
            rcases g3 with g3 | g3
            · exact ⟨0, by omega, g3⟩
            · exact ⟨1, by omega, g3⟩
          refine ⟨(s.1 * 2 + nI bt, σ1), (2 * t.1 + nI bt, τ1), fun f => ?_, fun f => ?_, Or.inl ⟨2 * v + bt, x2, cur2, lf2, ?_, ?_, ?_, h4.trans g4, g5, by omega⟩⟩
          · show L_BO_bits_4 48 (nI k) (f + 1) s.1 (nI j) s.2 = _
            rw [g1 _ _ _ _ hge, nI_1]
          · show L_RM_hearBits_4 56 (nI k) (f + 1) t.1 (nI j) t.2 = _
            rw [L_RM_hearBits_4, if_neg hge, e28, if_pos rfl, g2, Option.bind_some, nI_1]
          · rw [Nat.pow_succ]; omega
          · show s.1 * 2 + nI bt = _
            rw [h2, show (2 : Int32) = nI 2 from rfl, nI_mul, nI_add]
            congr 1; omega
          · show 2 * t.1 + nI bt = _
            rw [h3, show (2 : Int32) = nI 2 from rfl, nI_mul, nI_add]
        · left
          refine ⟨(s.1, σ1), (2 * t.1 + 0, τ1), fun f => ?_, fun f => ?_, Or.inr g3⟩
          · show L_BO_bits_4 48 (nI k) (f + 1) s.1 (nI j) s.2 = _
            rw [g1 _ _ _ _ hge, nI_1]
          · show L_RM_hearBits_4 56 (nI k) (f + 1) t.1 (nI j) t.2 = _
            rw [L_RM_hearBits_4, if_neg hge, e28, if_pos rfl, g2, Option.bind_some, nI_1]
      · right
        intro f g
        exact ⟨_, _, bo_stop hs, hb_stop hs, Or.inr hs⟩
  exact ⟨(a.1, a.2.2), (q.1, q.2.2), by rw [f_BO_bits, ea, Option.bind_some], by rw [f_RM_hearBits, eq, Option.bind_some], h9⟩
set_option maxRecDepth 100000 in
set_option maxHeartbeats 4000000 in
/-- one bit of the class by itself -/
theorem bo_one {σ0 τ0 σs τs σ τ : Mem} {m lo cn x cur lf : Nat} {d : Nat → Nat} (S : BS σ0 τ0 σs τs m d) (HF : RXF σs τs σ τ lo cn) (Hb : RXb σ τ m x cur lf) :
    (∃ bit σ1 τ1 x1 cur1 lf1, f_BO_bits 48 1 σ = some (bit, σ1) ∧ f_RM_hear 56 τ = some (bit, τ1) ∧ (bit = 0 ∨ bit = 1) ∧ KB σ τ σ1 τ1 ∧ RXb σ1 τ1 m x1 cur1 lf1 ∧ τ1 56 63 = nI (x1 - 1) ∧ 1 ≤ x1 ∧ x ≤ x1) ∨ (∃ σ1 τ1, f_BO_bits 48 1 σ = some (0, σ1) ∧ f_RM_hear 56 τ = some (0, τ1) ∧ FTm σ0 τ0 σ1 τ1) := by
  have h01 : ¬ (1 : Int32) ≤ 0 := by decide
  have e1 : ∀ s a, L_BO_bits_4 48 1 9998 a (0 + 1) s = some (a, 0 + 1, s) := by
    intro s a
    rw [L_BO_bits_4, if_pos (by decide)]
  rcases r_hear S HF Hb with ⟨bit, σ1, τ1, x2, cur2, lf2, g1, g2, g3, g4⟩ | ⟨σ1, τ1, g1, g2, g3⟩
  · left
    refine ⟨bit, σ1, τ1, x2, cur2, lf2, ?_, g2, g3, g4⟩
    rw [f_BO_bits, g1 1 9998 0 0 h01, e1, Option.bind_some]
    show some (0 * 2 + bit, σ1) = _
    rw [Int32.zero_mul, Int32.zero_add]
  · right
    refine ⟨σ1, τ1, ?_, g2, g3⟩
    rw [f_BO_bits, g1 1 9998 0 0 h01, e1, Option.bind_some]
set_option maxRecDepth 100000 in
set_option maxHeartbeats 4000000 in
theorem bo_one_stop {σ0 τ0 σ τ : Mem} (H : FTm σ0 τ0 σ τ) : f_BO_bits 48 1 σ = some (0, σ) := by
  rw [f_BO_bits, bo_stop (n := 9998) H, Option.bind_some]
set_option maxRecDepth 100000 in
set_option maxHeartbeats 4000000 in
/-- after a fault the class's code runs out -/
theorem code_out {σ0 τ0 σ τ : Mem} {b1 : Int32} (H : FTm σ0 τ0 σ τ) : ∀ (e n j : Nat), j + e = 21 → e < n → L_BO_code_2 48 b1 n (nI j) σ = some (nI 21, σ) := by
  intro e
  induction e with
  | zero =>
    intro n j h1 h2
    obtain ⟨n, rfl⟩ := Nat.exists_eq_succ_of_ne_zero (show n ≠ 0 by omega)
    have : j = 21 := by omega
    subst this
    rw [L_BO_code_2, if_pos (by decide)]
  | succ e ih =>
    intro n j h1 h2
    obtain ⟨n, rfl⟩ := Nat.exists_eq_succ_of_ne_zero (show n ≠ 0 by omega)
    rw [L_BO_code_2, if_neg (show ¬ (20 : Int32) < nI j from Int32.not_lt.mpr (nI_le (b := 20) (by omega) (by decide))), bo_one_stop H, Option.bind_some, if_pos rfl, nI_1]
    exact ih n (j + 1) (by omega) (by omega)
set_option maxRecDepth 100000 in
set_option maxHeartbeats 4000000 in
theorem r_zeros {σ0 τ0 σs τs σ τ : Mem} {m lo cn x cur lf : Nat} {d : Nat → Nat} {b1 p1 p2 p3 p4 : Int32} (S : BS σ0 τ0 σs τs m d) (HF : RXF σs τs σ τ lo cn) (Hb : RXb σ τ m x cur lf) :
    Both (L_BO_code_2 48 b1 9999 0 σ) (L_RM_hearSample_10 56 p1 p2 p3 p4 9999 0 τ) (fun a q => (∃ j x1 cur1 lf1, j ≤ 21 ∧ a.1 = nI j ∧ q.1 = nI j ∧ KB σ τ a.2 q.2 ∧ RXb a.2 q.2 m x1 cur1 lf1 ∧ x ≤ x1 ∧ (0 < j → q.2 56 63 = nI (x1 - 1) ∧ 1 ≤ x1)) ∨ (a.1 = nI 21 ∧ FTm σ0 τ0 a.2 q.2)) := by
  have key : ∀ (e n g j x1 cur1 lf1 : Nat) (s t : Mem), j + e = 21 → e < n → e + 1 < g → n ≤ 9999 → 21 ≤ n + j → KB σ τ s t → RXb s t m x1 cur1 lf1 → x ≤ x1 → (0 < j → t 56 63 = nI (x1 - 1) ∧ 1 ≤ x1) → Both (L_BO_code_2 48 b1 n (nI j) s) (L_RM_hearSample_10 56 p1 p2 p3 p4 g (nI j) t) (fun a q => (∃ j x1 cur1 lf1, j ≤ 21 ∧ a.1 = nI j ∧ q.1 = nI j ∧ KB σ τ a.2 q.2 ∧ RXb a.2 q.2 m x1 cur1 lf1 ∧ x ≤ x1 ∧ (0 < j → q.2 56 63 = nI (x1 - 1) ∧ 1 ≤ x1)) ∨ (a.1 = nI 21 ∧ FTm σ0 τ0 a.2 q.2)) := by
    intro e
    induction e with
    | zero =>
      intro n g j x1 cur1 lf1 s t h1 h2 h3 h4 h5 hK hB hX hS
      obtain ⟨n, rfl⟩ := Nat.exists_eq_succ_of_ne_zero (show n ≠ 0 by omega)
      obtain ⟨g, rfl⟩ := Nat.exists_eq_succ_of_ne_zero (show g ≠ 0 by omega)
      have : j = 21 := by omega
      subst this
      obtain ⟨F1, Z1, hss1⟩ := (hK.rxf HF).fr S
      rw [L_BO_code_2, if_pos (by decide), L_RM_hearSample_10, Z1.2.2.1, if_pos rfl, if_pos (by decide)]
      exact both_ret (Or.inl ⟨21, x1, cur1, lf1, by omega, rfl, rfl, hK, hB, hX, hS⟩)
    | succ e ih =>
      intro n g j x1 cur1 lf1 s t h1 h2 h3 h4 h5 hK hB hX hS
      obtain ⟨n, rfl⟩ := Nat.exists_eq_succ_of_ne_zero (show n ≠ 0 by omega)
      obtain ⟨g, rfl⟩ := Nat.exists_eq_succ_of_ne_zero (show g ≠ 0 by omega)
      have HF1 := hK.rxf HF
      obtain ⟨F1, Z1, hss1⟩ := HF1.fr S
      rw [L_BO_code_2, if_neg (show ¬ (20 : Int32) < nI j from Int32.not_lt.mpr (nI_le (b := 20) (by omega) (by decide))), L_RM_hearSample_10, Z1.2.2.1, if_pos rfl, if_neg (show ¬ (21 : Int32) ≤ nI j from nI_ge (b := 21) (by omega) (by decide))]
      rcases bo_one S HF1 hB with ⟨bit, σ1, τ1, x2, cur2, lf2, g1, g2, g3, g4, g5, g6, g7, g8⟩ | ⟨σ1, τ1, g1, g2, g3⟩
      · rw [g1, g2, Option.bind_some, Option.bind_some]
        by_cases z : bit = 0
        · rw [if_pos z, if_pos z, nI_1]
          exact ih n g (j + 1) x2 cur2 lf2 σ1 τ1 (by omega) (by omega) (by omega) (by omega) (by omega) (hK.trans g4) g5 (by omega) (fun _ => ⟨g6, g7⟩)
        · rw [if_neg z, if_neg z]
          exact both_ret (Or.inl ⟨j, x2, cur2, lf2, by omega, rfl, rfl, hK.trans g4, g5, by omega, fun _ => ⟨g6, g7⟩⟩)
      · rw [g1, g2, Option.bind_some, Option.bind_some, if_pos rfl, if_pos rfl, nI_1]
        refine ⟨_, (nI (j + 1), τ1), code_out g3 e n (j + 1) (by omega) (by omega), ?_, Or.inr ⟨rfl, g3⟩⟩
        obtain ⟨g, rfl⟩ := Nat.exists_eq_succ_of_ne_zero (show g ≠ 0 by omega)
        rw [L_RM_hearSample_10, if_neg (show ¬ τ1 56 28 = 0 by rw [← g3.2.1]; exact g3.2.2.1)]
  exact key 21 9999 9999 0 x cur lf σ τ (by omega) (by omega) (by omega) (by omega) (by omega) KB.refl Hb (Nat.le_refl _) (fun z => by omega)
