/-! reading: restarts, the rows of a scan -/
set_option maxRecDepth 100000 in
set_option maxHeartbeats 4000000 in
theorem FTm.meet {σ0 τ0 σ τ : Mem} {f p : Int32} (H : FTm σ0 τ0 σ τ) : f_FA_meet 47 f p σ = σ := by
  rw [f_FA_meet, if_neg H.2.2.1]
set_option maxRecDepth 100000 in
set_option maxHeartbeats 4000000 in
theorem r_restart {σ0 τ0 σs τs σ τ : Mem} {m lo cn xb ne tp rs st fr y1 a : Nat} {d : Nat → Nat} {T : Nat → Nat → Nat → Prop} (S : BS σ0 τ0 σs τs m d) (hst : τs 56 39 = nI st) (H : RXA σs τs m lo cn xb ne tp rs st fr T σ τ) :
    Both (f_SR_passRestart 30 (nI a) σ) ((f_RM_hearEnd 56 τ).bind fun t => f_RM_hearRestart 56 (nI a) (nI y1) t) (fun A D => (∀ j, ¬ j = 12 → A 30 j = σ 30 j) ∧ A 31 = σ 31 ∧ (RXA σs τs m lo cn xb ne tp rs st y1 T A D ∨ FTm σ0 τ0 A D)) := by
  obtain ⟨x, cur, lf, HF, Hb, hxb, Hm⟩ := H
  have m6 : m ≤ 6000 := S.1.2.2.1
  obtain ⟨s1, t1, es, et, hfr, h9⟩ := r_end S HF Hb Hm
  have es1 : f_BO_close 48 σ = s1 := Option.some.inj es
  have k30 : s1 30 = σ 30 := hfr 30 (by decide) (by decide)
  have k31 : s1 31 = σ 31 := hfr 31 (by decide) (by decide)
  rw [et, Option.bind_some, f_SR_passRestart, wt_30_0, wt_30_2, wt_30_3, wt_30_4, es1]
  simp only [lt_eq]
  rcases h9 with ⟨x1, hx1, hx1m, HF1, c2, q60, q62, q64, Hm1⟩ | h9
  · obtain ⟨F1, Z1, hss1⟩ := HF1.fr S
    have B := S.1
    obtain ⟨m1, m2⟩ := rd_s B F1
    have en : f_BO_next 48 s1 = nI x1 := c2
    have ez : f_BY_size 19 s1 = nI m := m1
    rw [f_RM_hearRestart, Z1.2.2.1, if_pos (show (0 : Int32) ≤ 0 by decide), q60, ez, m2, en, nI_sub hx1m, wt_56_18, wl_64]
    simp only [lt_eq]
    by_cases h2 : 2 ≤ m - x1
    · have l2 : (2 : Int32) ≤ nI (m - x1) := nI_le (a := 2) h2 (by omega)
      obtain ⟨s8, u8, es8, et8, f8⟩ := ft_meet (f := 8) (p := nI x1) F1 Z1 hss1 (by decide)
      have k8 : ∀ k, ¬ k = 47 → s8 k = s1 k := fun k hk => by rw [← es8, f_FA_meet, if_pos Z1.2.1, lt_eq, lt_eq, mput_cell hk, mput_cell hk]
      rw [if_pos l2, if_pos l2, if_pos (rd_i B (show x1 < m by omega)), rd_c B F1 (show x1 < m by omega), rd_r B F1 (show x1 < m by omega), nI_1, rd_c B F1 (show x1 + 1 < m by omega), if_pos (rd_i B (show x1 + 1 < m by omega)), rd_r B F1 (show x1 + 1 < m by omega), es8, f8.met, if_neg (show ¬ (1 : Int32) = 0 by decide), Z1.met, if_pos rfl, q60, et8]
      have bad : Both (some s8) (some u8) (fun A D => (∀ j, ¬ j = 12 → A 30 j = σ 30 j) ∧ A 31 = σ 31 ∧ (RXA σs τs m lo cn xb ne tp rs st y1 T A D ∨ FTm σ0 τ0 A D)) := both_ret ⟨fun j _ => by rw [k8 30 (by decide), k30], by rw [k8 31 (by decide), k31], Or.inr f8⟩
      by_cases hA : nI (d x1) = 255
      · rw [if_pos hA, if_pos hA]
        by_cases hB : nI (d (x1 + 1)) = 208 + (nI a - nI a / 8 * 8)
        · rw [if_pos hB, if_pos hB, m_renew (k0 := 49) wt_49_1 wt_50_0 wl_51 wt_49_2 wt_52_0 wl_53, Option.bind_some, f_BO_begin]
          simp only [lt_eq]
          have e39 : mput (mput t1 56 30 (t1 56 30 + 1)) 56 60 (mput t1 56 30 (t1 56 30 + 1) 56 60 + 2) 56 39 = nI st := by
            rw [mput_slot (by decide), mput_slot (by decide), HF1.2.2.2.2.1 39 (by omega), hst]
          rw [e39, rm_begin, Option.bind_some, mput_slot (show ¬ 60 = 30 by decide), q60]
          have ex2 : nI x1 + 2 = nI (x1 + 2) := nI_add x1 2
          rw [ex2]
          obtain ⟨⟨n3, n4, n5, n6, n7, n8⟩, ⟨u54, u55, u56⟩, hE2, hT2⟩ := Hm1
          refine both_ret ⟨?_, ?_, Or.inl ⟨x1 + 2, 0, 0, ?_, ?_, by omega, ?_⟩⟩
          · intro j hj
            simp only [mput_cell, fillr_cell, Nat.reduceEqDiff, not_false_eq_true]
            rw [mput_slot hj, k30]
          · simp only [mput_cell, fillr_cell, Nat.reduceEqDiff, not_false_eq_true]
            exact k31
          · obtain ⟨i1, i2, i3, i4, i5, i6⟩ := HF1
            refine ⟨fun k hk => ?_, fun j hj => ?_, fun i hi => ?_, fun k hk => ?_, fun j hj => ?_, ?_⟩
            · rw [mput_cell (by omega), mput_cell (by omega), mput_cell (by omega), fillr_cell (by omega), fillr_cell (by omega), mput_cell (by omega), i1 k hk]
            · simp only [mput_cell, fillr_cell, Nat.reduceEqDiff, not_false_eq_true]
              rw [mput_slot hj, i2 j hj]
            · simp only [mput_cell, fillr_cell, Nat.reduceEqDiff, not_false_eq_true]
              exact i3 i hi
            · rw [fillr_cell (by omega), fillr_cell (by omega), mput_cell (by omega), mput_cell (by omega), mput_cell (by omega), i4 k hk]
            · rw [fillr_cell (by decide), fillr_cell (by decide), mput_slot (by omega), mput_slot (by omega), mput_slot (by omega), i5 j hj]
            · simp only [mput_same, mput_slot, mput_cell, fillr_cell, Nat.reduceEqDiff, not_false_eq_true]
              rw [i6]
          · unfold RXb
            refine ⟨⟨?_, ?_, ?_⟩, ⟨?_, ?_, fun z => absurd z (by decide)⟩, ?_, by omega, by decide, by decide⟩
            · simp only [mput_same, mput_slot, Nat.reduceEqDiff, not_false_eq_true]
            · simp only [mput_same, mput_slot, Nat.reduceEqDiff, not_false_eq_true]
              rfl
            · simp only [mput_same]
              rfl
            · simp only [mput_same, mput_slot, fillr_cell, Nat.reduceEqDiff, not_false_eq_true]
            · simp only [mput_same, mput_slot, fillr_cell, Nat.reduceEqDiff, not_false_eq_true, q62]
              rfl
            · simp only [mput_same, mput_slot, fillr_cell, Nat.reduceEqDiff, not_false_eq_true, q64]
          · unfold RXm
            refine ⟨⟨?_, ?_, ?_, ?_, ?_, ?_⟩, ⟨?_, ?_, ?_⟩, ?_, ?_⟩
            · simp only [mput_cell, fillr_cell, Nat.reduceEqDiff, not_false_eq_true]; exact n3
            · simp only [mput_cell, fillr_cell, Nat.reduceEqDiff, not_false_eq_true]; exact n4
            · simp only [mput_cell, fillr_cell, Nat.reduceEqDiff, not_false_eq_true]; exact n5
            · simp only [mput_cell, fillr_cell, Nat.reduceEqDiff, not_false_eq_true]; exact n6
            · simp only [mput_cell, fillr_cell, Nat.reduceEqDiff, not_false_eq_true]; exact n7
            · simp only [mput_cell, fillr_cell, Nat.reduceEqDiff, not_false_eq_true]; exact n8
            · simp only [mput_slot, fillr_cell, Nat.reduceEqDiff, not_false_eq_true]; exact u54
            · simp only [mput_slot, fillr_cell, Nat.reduceEqDiff, not_false_eq_true]; exact u55
            · simp only [mput_same, mput_slot, fillr_cell, Nat.reduceEqDiff, not_false_eq_true]
            · intro k hk
              simp [mput_cell, fillr_cell, fillr_row, hk, n8]
            · simp only [mput_cell, fillr_cell, Nat.reduceEqDiff, not_false_eq_true]
              exact hT2
        · rw [if_neg hB, if_neg hB]
          exact bad
      · rw [if_neg hA, if_neg hA]
        exact bad
    · have l2 : ¬ (2 : Int32) ≤ nI (m - x1) := nI_ge (b := 2) (by omega) (by decide)
      obtain ⟨s8, u8, es8, et8, f8⟩ := ft_meet (f := 1) (p := nI m) F1 Z1 hss1 (by decide)
      have k8 : ∀ k, ¬ k = 47 → s8 k = s1 k := fun k hk => by rw [← es8, f_FA_meet, if_pos Z1.2.1, lt_eq, lt_eq, mput_cell hk, mput_cell hk]
      rw [if_neg l2, if_neg l2, es8, et8, f8.met, if_neg (show ¬ (1 : Int32) = 0 by decide)]
      exact both_ret ⟨fun j _ => by rw [k8 30 (by decide), k30], by rw [k8 31 (by decide), k31], Or.inr f8⟩
  · rw [f_RM_hearRestart, if_neg h9.2.2.2.2.2.2.2]
    simp only [h9.meet, h9.met, show ¬ (1 : Int32) = 0 by decide, if_false, ite_self]
    exact both_ret ⟨fun j _ => by rw [k30], k31, Or.inr h9⟩
set_option maxRecDepth 100000 in
set_option maxHeartbeats 4000000 in
theorem takeRow_ft {σ0 τ0 σ τ : Mem} {cn w tn : Nat} {a f : Int32} (H : FTm σ0 τ0 σ τ) (h9 : σ 30 9 = nI cn) (h5 : σ 31 5 = nI w) (hc : cn ≤ 12) (hw : w ≤ 12) : f_SR_takeRow 30 a f σ = some σ := by
  have key : ∀ (b3 b5 : Int32) (O e n j : Nat), O ≤ 12 → j + e = O → e < n → L_SR_takeRow_57 30 a f b3 (nI O) b5 n (nI j) σ = some (nI O, σ) := by
    intro b3 b5 O e
    induction e with
    | zero =>
      intro n j h1 h2 h3
      obtain ⟨n, rfl⟩ := Nat.exists_eq_succ_of_ne_zero (show n ≠ 0 by omega)
      have : j = O := by omega
      subst this
      rw [L_SR_takeRow_57, if_pos (nI_le (Nat.le_refl _) (by omega))]
    | succ e ih =>
      intro n j h1 h2 h3
      obtain ⟨n, rfl⟩ := Nat.exists_eq_succ_of_ne_zero (show n ≠ 0 by omega)
      have e1 : ∃ v, L_SR_takeRow_67 30 a f b3 (nI O) b5 (nI j) 9999 0 σ = some (v, σ) := by
        refine ⟨0, ?_⟩
        rw [L_SR_takeRow_67, wt_30_2, H.met, if_neg (show ¬ (1 : Int32) = 0 by decide)]
        split <;> rfl
      obtain ⟨v, ev⟩ := e1
      rw [L_SR_takeRow_57, if_neg (nI_ge (by omega) (by omega)), ev, Option.bind_some, nI_1]
      exact ih n (j + 1) h1 (by omega) (by omega)
  rw [f_SR_takeRow, wt_30_1, h9, h5]
  simp only [lt_eq]
  by_cases z : σ 30 11 = 2
  · simp only [z, if_true, show ¬ (1 : Int32) = 0 by decide, if_false]
    have := key 1 (nI cn) w w 9999 0 hw (by omega) (by omega)
    rw [show (0 : Int32) = nI 0 from rfl, this, Option.bind_some]
  · simp only [z, if_true, if_false]
    have := key 0 (nI w) cn cn 9999 0 hc (by omega) (by omega)
    show ((L_SR_takeRow_57 30 a f 0 (nI cn) (nI w) 9999 (nI 0) σ).bind fun q => some q.2) = _
    rw [this, Option.bind_some]
def C_rb (b1 a2 a3 : Int32) (σ : Mem) : Option (Int32 × Int32 × Mem) := if b1 = 0 then some (a2, a3, σ) else if a3 = b1 then (f_SR_passRestart 30 a2 σ).bind fun s => some (a2 + 1, 0, s) else some (a2, a3, σ)
set_option maxRecDepth 100000 in
set_option maxHeartbeats 4000000 in
theorem data45 {b1 a2 a3 a4 : Int32} {n : Nat} {σ : Mem} (h : ¬ σ 31 6 ≤ a4) (hm : f_FA_met 47 σ = 0) : L_SR_data_45 30 b1 (n + 1) a2 a3 a4 σ = (C_rb b1 a2 a3 σ).bind fun q => (f_SR_takeRow 30 a4 (if q.2.1 = 0 then 1 else 0) q.2.2).bind fun s => L_SR_data_45 30 b1 n q.1 (q.2.1 + 1) (a4 + 1) s := by
  rw [L_SR_data_45, wt_30_1, wt_30_2, if_neg h, hm, if_pos rfl]
  simp only [lt_eq]
  unfold C_rb
  by_cases h1 : b1 = 0
  · rw [if_pos h1, if_pos h1, Option.bind_some]
  · by_cases h2 : a3 = b1
    · rw [if_neg h1, if_neg h1, if_pos h2, if_pos h2, Option.bind_assoc]
      rfl
    · rw [if_neg h1, if_neg h1, if_neg h2, if_neg h2, Option.bind_some]
set_option maxRecDepth 100000 in
set_option maxHeartbeats 4000000 in
theorem data45_ft {σ0 τ0 σ τ : Mem} {b1 a2 a3 a4 : Int32} {n : Nat} (H : FTm σ0 τ0 σ τ) : L_SR_data_45 30 b1 (n + 1) a2 a3 a4 σ = some (a2, a3, a4, σ) := by
  rw [L_SR_data_45, wt_30_2, H.met, if_neg (show ¬ (1 : Int32) = 0 by decide)]
  split <;> rfl
def R_rb (a3 a4 : Int32) (t : Mem) : Option (Int32 × Mem) := if t 56 28 = 0 then (if t 56 40 ≤ 0 then some (a3, t) else if (a4 + 1) - (a4 + 1) / (t 56 40) * (t 56 40) = 0 then (if t 56 35 ≤ a4 + 1 then some (a3, t) else ((f_RM_hearEnd 56 t).bind fun t1 => f_RM_hearRestart 56 a3 (a4 + 1) t1).bind fun t2 => some (a3 + 1, t2)) else some (a3, t)) else some (a3, t)
set_option maxRecDepth 100000 in
set_option maxHeartbeats 4000000 in
theorem data43 {b1 b2 a3 a4 : Int32} {n : Nat} {τ : Mem} (h : ¬ τ 56 35 ≤ a4) (hm : τ 56 28 = 0) : L_RM_hearData_43 56 b1 b2 (n + 1) a3 a4 τ = (L_RM_hearData_72 56 b1 b2 a3 a4 ((τ 56 34) * (b2 - b1)) 9999 0 τ).bind fun q => (R_rb a3 a4 q.2).bind fun u => L_RM_hearData_43 56 b1 b2 n u.1 (a4 + 1) u.2 := by
  rw [L_RM_hearData_43, if_neg h, hm, if_pos rfl]
  congr 1
  funext q
  simp only [lt_eq]
  unfold R_rb
  by_cases h1 : q.2 56 28 = 0
  · by_cases h2 : q.2 56 40 ≤ 0
    · rw [if_pos h1, if_pos h1, if_pos h2, if_pos h2, Option.bind_some]
    · by_cases h3 : (a4 + 1) - (a4 + 1) / (q.2 56 40) * (q.2 56 40) = 0
      · by_cases h4 : q.2 56 35 ≤ a4 + 1
        · rw [if_pos h1, if_pos h1, if_neg h2, if_neg h2, if_pos h3, if_pos h3, if_pos h4, if_pos h4, Option.bind_some]
        · rw [if_pos h1, if_pos h1, if_neg h2, if_neg h2, if_pos h3, if_pos h3, if_neg h4, if_neg h4]
          simp only [Option.bind_assoc, Option.bind_some]
      · rw [if_pos h1, if_pos h1, if_neg h2, if_neg h2, if_neg h3, if_neg h3, Option.bind_some]
  · rw [if_neg h1, if_neg h1, Option.bind_some]
set_option maxRecDepth 100000 in
set_option maxHeartbeats 4000000 in
theorem data43_ft {σ0 τ0 σ τ : Mem} {b1 b2 a3 a4 : Int32} {n : Nat} (H : FTm σ0 τ0 σ τ) : L_RM_hearData_43 56 b1 b2 (n + 1) a3 a4 τ = some (a3, a4, τ) := by
  rw [L_RM_hearData_43, if_neg (show ¬ τ 56 28 = 0 by rw [← H.2.1]; exact H.2.2.1)]
  split <;> rfl
