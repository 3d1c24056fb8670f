/-! reading: the end of a run of bits, a restart -/
set_option maxRecDepth 100000 in
set_option maxHeartbeats 4000000 in
theorem FTm.ref56 {σ0 τ0 σ τ : Mem} {j : Nat} {v : Int32} (H : FTm σ0 τ0 σ τ) (hj : 60 ≤ j ∧ j ≤ 64) : FTm σ0 τ0 σ (mput τ 56 j v) := by
  obtain ⟨F, h1, h2, h3, h4, h5, h6, h7⟩ := H
  refine ⟨F.put56 (by omega), ?_⟩
  rw [mput_slot (by omega), mput_slot (by omega), mput_slot (by omega), mput_slot (by omega)]
  exact ⟨h1, h2, h3, h4, h5, h6, h7⟩
set_option maxRecDepth 100000 in
set_option maxHeartbeats 4000000 in
/-- the bits that are left: none of them may be 1 -/
theorem hear_end : ∀ (lf n x cur : Nat) (τ : Mem), lf ≤ 8 → lf + 1 < n → cur ≤ 255 → τ 56 28 = 0 → τ 56 62 = nI lf → (0 < lf → τ 56 61 = nI cur ∧ τ 56 63 = nI (x - 1)) → ∃ τ1, L_RM_hearEnd_0 56 n τ = some τ1 ∧ (∀ k, ¬ k = 56 → τ1 k = τ k) ∧ (∀ j, ¬ (j = 62 ∨ j = 28 ∨ j = 29) → τ1 56 j = τ 56 j) ∧ (cur % 2 ^ lf = 0 → τ1 56 62 = 0 ∧ ∀ j, ¬ j = 62 → τ1 56 j = τ 56 j) ∧ (¬ cur % 2 ^ lf = 0 → τ1 56 28 = 7 ∧ τ1 56 29 = nI (x - 1)) := by
  intro lf
  induction lf with
  | zero =>
    intro n x cur τ h1 h2 h3 h4 h5 h6
    obtain ⟨n, rfl⟩ := Nat.exists_eq_succ_of_ne_zero (show n ≠ 0 by omega)
    refine ⟨τ, by rw [L_RM_hearEnd_0, h5, if_pos (show nI 0 ≤ 0 by decide)], fun _ _ => rfl, fun _ _ => rfl, fun _ => ⟨h5, fun _ _ => rfl⟩, fun z => ?_⟩
    rw [Nat.pow_zero, Nat.mod_one] at z
    exact absurd rfl z
  | succ k ih =>
    intro n x cur τ h1 h2 h3 h4 h5 h6
    obtain ⟨n, rfl⟩ := Nat.exists_eq_succ_of_ne_zero (show n ≠ 0 by omega)
    obtain ⟨h61, h63⟩ := h6 (by omega)
    have hb : cur / 2 ^ k % 2 < 2 := Nat.mod_lt _ (by decide)
    have hms : cur % 2 ^ (k + 1) = cur % 2 ^ k + 2 ^ k * (cur / 2 ^ k % 2) := Nat.mod_pow_succ
    have hpk : 1 ≤ 2 ^ k := Nat.one_le_two_pow
    have ebit : (nI cur >>> (nI k &&& 31)) &&& 1 = nI (cur / 2 ^ k % 2) := by
      rw [nI_shr (by omega) (by omega)]
      exact nI_and (r := 1) (Nat.lt_of_le_of_lt (Nat.div_le_self _ _) (by omega)) (by decide)
    have ehear : f_RM_hear 56 τ = some (nI (cur / 2 ^ k % 2), mput τ 56 62 (nI k)) := by
      rw [f_RM_hear, h5]
      simp only [lt_eq]
      rw [if_neg (nI_ne0 (by omega) (by omega)), h5, nI_pred, mput_slot (by decide), mput_same, h61, ebit]
    by_cases z : cur / 2 ^ k % 2 = 0
    · obtain ⟨τ1, e1, e2, e3, e4, e5⟩ := ih n x cur (mput τ 56 62 (nI k)) (by omega) (by omega) h3 (by rw [mput_slot (by decide), h4]) (by rw [mput_same]) (fun _ => ⟨by rw [mput_slot (by decide), h61], by rw [mput_slot (by decide), h63]⟩)
      rw [z, Nat.mul_zero, Nat.add_zero] at hms
      refine ⟨τ1, ?_, fun i hi => by rw [e2 i hi, mput_cell hi], fun j hj => by rw [e3 j hj, mput_slot (by omega)], by rw [hms]; exact fun q => ⟨(e4 q).1, fun j hj => by rw [(e4 q).2 j hj, mput_slot hj]⟩, by rw [hms]; exact e5⟩
      rw [L_RM_hearEnd_0, h5, if_neg (show ¬ nI (k + 1) ≤ 0 from nI_ge (a := 0) (b := k + 1) (by omega) (by omega)), h4, if_pos rfl, ehear, Option.bind_some, z, if_neg (show ¬ nI 0 = 1 by decide), e1]
    · have z1 : cur / 2 ^ k % 2 = 1 := by omega
      have hnz : ¬ cur % 2 ^ (k + 1) = 0 := by
        rw [hms, z1, Nat.mul_one]
        omega
      obtain ⟨n, rfl⟩ := Nat.exists_eq_succ_of_ne_zero (show n ≠ 0 by omega)
      refine ⟨mput (mput (mput τ 56 62 (nI k)) 56 28 7) 56 29 (nI (x - 1)), ?_, fun i hi => by rw [mput_cell hi, mput_cell hi, mput_cell hi], fun j hj => by rw [mput_slot (by omega), mput_slot (by omega), mput_slot (by omega)], fun q => absurd q hnz, fun _ => ⟨by rw [mput_slot (by decide), mput_same], by rw [mput_same]⟩⟩
      have eb : f_RM_broken 56 7 (mput τ 56 62 (nI k) 56 63) (mput τ 56 62 (nI k)) = (0, mput (mput (mput τ 56 62 (nI k)) 56 28 7) 56 29 (nI (x - 1))) := by
        rw [f_RM_broken, mput_slot (show ¬ 28 = 62 by decide), h4, if_pos rfl, lt_eq, lt_eq, mput_slot (show ¬ 63 = 62 by decide), h63]
      rw [L_RM_hearEnd_0, h5, if_neg (show ¬ nI (k + 1) ≤ 0 from nI_ge (a := 0) (b := k + 1) (by omega) (by omega)), h4, if_pos rfl, ehear, Option.bind_some, z1, if_pos (show nI 1 = 1 from rfl), lt_eq, eb]
      show L_RM_hearEnd_0 56 (n + 1) (mput (mput (mput τ 56 62 (nI k)) 56 28 7) 56 29 (nI (x - 1))) = _
      rw [L_RM_hearEnd_0, mput_slot (show ¬ 28 = 29 by decide), mput_same, if_neg (show ¬ (7 : Int32) = 0 by decide)]
      split <;> rfl
set_option maxRecDepth 100000 in
set_option maxHeartbeats 4000000 in
theorem r_end {σ0 τ0 σs τs σ τ : Mem} {m lo cn x cur lf ne tp rs st fr : Nat} {d : Nat → Nat} {T : Nat → Nat → Nat → Prop} (S : BS σ0 τ0 σs τs m d) (HF : RXF σs τs σ τ lo cn) (Hb : RXb σ τ m x cur lf) (Hm : RXm σ τ ne tp rs st fr T) :
    Both (some (f_BO_close 48 σ)) (f_RM_hearEnd 56 τ) (fun a q => (∀ k, ¬ k = 48 → ¬ k = 47 → a k = σ k) ∧ ((∃ x1, x ≤ x1 ∧ x1 ≤ m ∧ RXF σs τs a q lo cn ∧ a 48 2 = nI x1 ∧ q 56 60 = nI x1 ∧ q 56 62 = 0 ∧ q 56 64 = 0 ∧ RXm a q ne tp rs st fr T) ∨ FTm σ0 τ0 a q)) := by
  obtain ⟨F, Z, hss⟩ := HF.fr S
  have B := S.1
  have m6 : m ≤ 6000 := B.2.2.1
  obtain ⟨m1, m2⟩ := rd_s B F
  obtain ⟨⟨c1, c2, c3⟩, ⟨t1, t2, t3⟩, hbh, hx, hcur, hlf⟩ := Hb
  have hp := pow_le hlf
  have hq := pow_pos' (b := lf)
  have hmod : cur % 2 ^ lf < 2 ^ lf := Nat.mod_lt _ (by omega)
  have ev : nI cur &&& (((1 : Int32) <<< (nI lf &&& 31)) - 1) = nI (cur % 2 ^ lf) := by
    rw [top_nI hlf]
    exact nI_and (by omega) (by omega)
  obtain ⟨τ1, e1, e2, e3, e4, e5⟩ := hear_end lf 9999 x cur τ hlf (by omega) hcur Z.2.2.1 t2 (fun z => ⟨(t3 z).1, (t3 z).2.1⟩)
  have l255 : nI cur = 255 ↔ cur = 255 := nI_eq (b := 255) (by omega) (by decide)
  rw [f_BO_close, f_RM_hearEnd, e1, Option.bind_some, wt_48_0, wt_48_1, c1, c2, c3, ev, wt_56_18, wl_64]
  simp only [lt_eq, c1, c2]
  by_cases z : cur % 2 ^ lf = 0
  · obtain ⟨k1, k2⟩ := e4 z
    have kk : ∀ j, ¬ j = 62 → τ1 56 j = τ 56 j := k2
    have K : KB σ τ σ τ1 := ⟨fun _ _ => rfl, e2, fun j hj => kk j (by omega)⟩
    have HF1 := K.rxf HF
    have Hm1 := K.rxm Hm
    obtain ⟨F1, Z1, hss1⟩ := HF1.fr S
    rw [if_pos (by rw [z]; rfl), Z1.2.2.1, if_pos rfl, kk 64 (by decide), kk 60 (by decide), kk 19 (by decide), m2, t1]
    by_cases h255 : cur = 255
    · have h64 : ¬ τ 56 64 = 0 := fun q => hbh.mp q h255
      rw [if_pos (l255.mpr h255), if_neg h64]
      by_cases hxm : x < m
      · have hhas : f_BY_has 19 (nI x) σ = 1 := by
          rw [f_BY_has, m1, if_neg (nI_pos (by omega)), if_neg (nI_ge hxm (by omega))]
        rw [hhas, if_neg (show ¬ (1 : Int32) = 0 by decide), if_pos (l255.mpr h255), if_pos (l255.mpr h255), rd_c B F hxm, if_pos (nI_lt hxm (by omega)), if_pos (rd_i B hxm), rd_r B F1 hxm]
        by_cases h0 : nI (d x) = 0
        · rw [if_pos h0, if_pos h0, nI_1]
          refine both_ret ⟨fun k i1 i2 => mput_cell i1, Or.inl ⟨x + 1, by omega, by omega, ?_, mput_same, ?_, ?_, mput_same, ?_⟩⟩
          · exact ((HF1.put48).put56 (by omega)).put56 (by omega)
          · rw [mput_slot (by decide), mput_same]
          · rw [mput_slot (by decide), mput_slot (by decide), k1]
          · refine Hm1.congr ?_ ?_ ?_ ?_ ?_ ?_ ?_ ?_ ?_ ?_
            all_goals simp only [mput_slot, mput_cell, Nat.reduceEqDiff, not_false_eq_true]
        · rw [if_neg h0, if_neg h0]
          obtain ⟨s7, u7, es7, et7, f7⟩ := ft_meet (f := 7) (p := nI x) F1 Z1 hss1 (by decide)
          rw [es7, et7]
          refine both_ret ⟨fun k i1 i2 => ?_, Or.inr ((f7.ref56 (by omega)).ref56 (by omega))⟩
          rw [← es7, f_FA_meet, if_pos Z.2.1, lt_eq, lt_eq, mput_cell i2, mput_cell i2]
      · have hhas : f_BY_has 19 (nI x) σ = 0 := by
          rw [f_BY_has, m1, if_neg (nI_pos (by omega)), if_pos (nI_le (by omega) (by omega))]
        rw [hhas, if_pos rfl, if_neg (Int32.not_lt.mpr (nI_le (by omega) (by omega))), f_BY_size, m1]
        obtain ⟨s7, u7, es7, et7, f7⟩ := ft_meet (f := 1) (p := nI m) F1 Z1 hss1 (by decide)
        rw [es7, et7]
        refine both_ret ⟨fun k i1 i2 => ?_, Or.inr ((f7.ref56 (by omega)).ref56 (by omega))⟩
        rw [← es7, f_FA_meet, if_pos Z.2.1, lt_eq, lt_eq, mput_cell i2, mput_cell i2]
    · have hn : ¬ nI cur = 255 := fun q => h255 (l255.mp q)
      rw [if_neg hn, if_neg hn, if_neg hn, if_pos (hbh.mpr h255)]
      refine both_ret ⟨fun _ _ _ => rfl, Or.inl ⟨x, Nat.le_refl _, hx, HF1.put56 (by omega), c1, ?_, ?_, mput_same, ?_⟩⟩
      · rw [mput_slot (by decide), kk 60 (by decide), t1]
      · rw [mput_slot (by decide), k1]
      · refine Hm1.congr ?_ ?_ ?_ ?_ ?_ ?_ ?_ ?_ ?_ ?_
        all_goals simp only [mput_slot, mput_cell, Nat.reduceEqDiff, not_false_eq_true]
  · obtain ⟨k1, k2⟩ := e5 z
    have hl0 : 0 < lf := by
      by_cases q : lf = 0
      · subst q
        rw [Nat.pow_zero, Nat.mod_one] at z
        exact absurd rfl z
      · omega
    have hx1 := (t3 hl0).2.2
    rw [if_neg (nI_ne0 (by omega) (by omega)), k1, if_neg (show ¬ (7 : Int32) = 0 by decide), down_1 hx1, f_FA_meet, if_pos Z.2.1, lt_eq, lt_eq]
    refine both_ret ⟨fun k i1 i2 => by rw [mput_cell i2, mput_cell i2], Or.inr ⟨⟨fun k hk => by rw [mput_cell (by omega), mput_cell (by omega), F.1 k hk], fun k i1 i2 => by rw [mput_cell i1, e2 k i1, F.2.1 k i1 i2], fun j hj => by rw [mput_slot (by omega), e3 j (by omega), F.2.2 j hj]⟩, ?_⟩⟩
    rw [mput_slot (show ¬ 28 = 64 by decide), mput_slot (show ¬ 29 = 64 by decide), mput_slot (show ¬ 30 = 64 by decide), mput_slot (show ¬ 31 = 64 by decide), k1, k2, e3 30 (by omega), e3 31 (by omega)]
    simp only [mput_same, mput_slot, mput_cell, Nat.reduceEqDiff, not_false_eq_true]
    exact ⟨trivial, by decide, trivial, Z.1, hss, Z.2.2.2, by decide⟩
