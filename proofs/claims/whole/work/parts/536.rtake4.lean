/-! reading: presets, tables -/
set_option maxRecDepth 100000 in
set_option maxHeartbeats 4000000 in
theorem r_numbers {σ0 τ0 σ τ : Mem} {m p k1 N : Nat} {d : Nat → Nat} {b2 c1 c2 : Int32} (B : RB σ0 τ0 m d) (F : RFr σ0 τ0 σ τ) (e32 : τ 56 32 = nI p) (hk : k1 < 4) (hN : N ≤ 256) (hm : p + 7 + 2 * N ≤ m) :
    Both (L_SR_takeTable_93 30 (nI p) b2 (nI N) (nI k1) 9999 0 σ) (L_RM_isPreset_279 56 c1 c2 (nI N) (nI k1) 9999 0 τ) (fun a q => RFr σ0 τ0 a.2 q.2 ∧ (∀ k, ¬ k = 39 → a.2 k = σ k) ∧ (∀ k, ¬ k = 74 → q.2 k = τ k) ∧ (∀ v, v < N → a.2 39 (256 * k1 + v) = q.2 74 (256 * k1 + v)) ∧ ∀ i, ¬ (256 * k1 ≤ i ∧ i < 256 * k1 + 256) → a.2 39 i = σ 39 i ∧ q.2 74 i = τ 74 i) := by
  have m6 : m ≤ 6000 := B.2.2.1
  have e7 : nI p + 7 = nI (p + 7) := nI_add p 7
  refine loopB (C := fun f j s => L_SR_takeTable_93 30 (nI p) b2 (nI N) (nI k1) f (nI j) s) (R := fun f j t => L_RM_isPreset_279 56 c1 c2 (nI N) (nI k1) f (nI j) t) (P := fun j s t => RFr σ0 τ0 s t ∧ (∀ k, ¬ k = 39 → s k = σ k) ∧ (∀ k, ¬ k = 74 → t k = τ k) ∧ (∀ v, v < j → s 39 (256 * k1 + v) = t 74 (256 * k1 + v)) ∧ ∀ i, ¬ (256 * k1 ≤ i ∧ i < 256 * k1 + 256) → s 39 i = σ 39 i ∧ t 74 i = τ 74 i) (hi := N) ?_ ?_ N 9999 9999 0 σ τ (by omega) (by omega) (by omega) ⟨F, fun _ _ => rfl, fun _ _ => rfl, fun v hv => by omega, fun _ _ => ⟨rfl, rfl⟩⟩
  · intro s t hs f g
    refine ⟨(nI N, s), (nI N, t), ?_, ?_, hs⟩
    · show L_SR_takeTable_93 30 (nI p) b2 (nI N) (nI k1) (f + 1) (nI N) s = _
      rw [L_SR_takeTable_93, if_pos (nI_le (Nat.le_refl _) (by omega))]
    · show L_RM_isPreset_279 56 c1 c2 (nI N) (nI k1) (g + 1) (nI N) t = _
      rw [L_RM_isPreset_279, if_pos (nI_le (Nat.le_refl _) (by omega))]
  · rintro j s t hj ⟨f1, f2, f3, f4, f5⟩
    left
    have t32 : t 56 32 = nI p := by rw [f3 56 (by decide), e32]
    have ep : nI p + 7 + 2 * nI j = nI (p + 7 + 2 * j) := by rw [e7, show (2 : Int32) = nI 2 from rfl, nI_mul, nI_add]
    refine ⟨mput s 39 (256 * k1 + j) (nI (256 * d (p + 7 + 2 * j) + d (p + 7 + 2 * j + 1))), mput t 74 (256 * k1 + j) (nI (256 * d (p + 7 + 2 * j) + d (p + 7 + 2 * j + 1))), fun f => ?_, fun f => ?_, (f1.putC (by decide)).put (by decide), fun k h1 => by rw [mput_cell h1, f2 k h1], fun k h1 => by rw [mput_cell h1, f3 k h1], ?_, ?_⟩
    · show L_SR_takeTable_93 30 (nI p) b2 (nI N) (nI k1) (f + 1) (nI j) s = _
      rw [L_SR_takeTable_93, if_neg (nI_ge hj (by omega)), wt_30_0, wt_30_1, ep, rd_wc B f1 (by omega), f_PI_setNumber, wt_31_3, nI_256, ro_set (k := 38) (a := 39) (n := 1024) wt_38_0 wl_39 (by omega) (by decide), lt_eq, lt_eq, nI_1]
    · show L_RM_isPreset_279 56 c1 c2 (nI N) (nI k1) (f + 1) (nI j) t = _
      rw [L_RM_isPreset_279, if_neg (nI_ge hj (by omega)), t32, ep, rd_wr B f1 (by omega), Option.bind_some, nI_256', wt_56_46, wl_74, if_pos (inb_nI (by omega) (by decide)), nI_clamp (by omega), lt_eq, nI_1]
    · intro v hv
      by_cases e : v = j
      · rw [e, mput_same, mput_same]
      · rw [mput_slot (by omega), mput_slot (by omega), f4 v (by omega)]
    · intro i hi
      rw [mput_slot (by omega), mput_slot (by omega)]
      exact f5 i hi
set_option maxRecDepth 100000 in
set_option maxHeartbeats 4000000 in
theorem r_presets {σ0 τ0 σ τ : Mem} {m p w h b c rs st rt nn sc L : Nat} {d : Nat → Nat} (B : RB σ0 τ0 m d) (F : RFr σ0 τ0 σ τ) (H : RH σ τ w h b c rs st rt nn sc) (hc0 : ¬ c = 0) (e32 : τ 56 32 = nI p) (hL : L = 256 * d (p + 2) + d (p + 3)) (h2 : 2 ≤ L) (hm : p + 2 + L ≤ m) :
    Both (f_SR_takePresetsOrTable 30 (nI p) (nI L) σ) (f_RM_isPreset 56 τ) (TK σ0 τ0 σ τ p) := by
  obtain ⟨Hf, Hp, Hn, Ht, Hs, Hz⟩ := id H
  have m6 : m ≤ 6000 := B.2.2.1
  have e2 : nI p + 2 = nI (p + 2) := nI_add p 2
  have e4 : nI p + 4 = nI (p + 4) := nI_add p 4
  have e5 : nI p + 5 = nI (p + 5) := nI_add p 5
  have e6 : nI p + 6 = nI (p + 6) := nI_add p 6
  have hd := Hf.2.2.2.1 hc0
  have hb8 : b ≤ 8 := hd.2.2.2.2.2.2
  have hp := pow_le hb8
  have hq := pow_pos' (b := b)
  rw [f_SR_takePresetsOrTable, f_RM_isPreset, e32, e2, rd_wr B F (show p + 2 + 1 < m by omega), Option.bind_some, show p + 2 + 1 = p + 3 from rfl, ← hL, wt_30_0, wt_56_18, wl_64, e4]
  simp only [lt_eq]
  have flt : ∀ f : Int32, ¬ f ≤ 0 → Both (some (f, σ)) (some ((f_RM_broken 56 f (nI p) τ).1, (f_RM_broken 56 f (nI p) τ).2)) (TK σ0 τ0 σ τ p) := fun f hf => both_ret (Or.inl ⟨f, hf, rfl, rfl⟩)
  by_cases z3n : ¬ 3 ≤ L
  · have l3 : ¬ (3 : Int32) ≤ nI L := nI_ge (b := 3) (by omega) (by decide)
    rw [if_neg l3, if_neg l3]
    exact flt 3 (by decide)
  have l3 : (3 : Int32) ≤ nI L := nI_le (a := 3) (by omega) (by omega)
  have d4 := (B.2.2.2 (p + 4) (by omega)).1
  rw [if_pos l3, if_pos l3, if_pos (rd_i B (show p + 4 < m by omega)), rd_r B F (show p + 4 < m by omega), rd_c B F (show p + 4 < m by omega)]
  by_cases t1 : nI (d (p + 4)) = 1
  · rw [if_pos t1, if_pos t1, if_pos t1, f_SR_takePresets, wt_30_0, wt_30_1, wt_31_1, e5, e6]
    simp only [lt_eq, e32, e5, e6]
    have l5 : nI L = 5 ↔ L = 5 := nI_eq (b := 5) (by omega) (by decide)
    by_cases z5 : L = 5
    · have d5 := (B.2.2.2 (p + 5) (by omega)).1
      have d6 := (B.2.2.2 (p + 6) (by omega)).1
      rw [if_pos (l5.mpr z5), if_pos (l5.mpr z5), if_pos (rd_i B (show p + 5 < m by omega)), rd_c B F (show p + 5 < m by omega), rd_c B F (show p + 6 < m by omega), rd_r B F (show p + 5 < m by omega), rd_r B F (show p + 6 < m by omega), if_pos (rd_i B (show p + 6 < m by omega))]
      generalize hx : d (p + 5) = x at d5
      generalize hy : d (p + 6) = y at d6
      have q1 : f_PI_mayPreset 0 (nI x) σ = if nI x < 3 then 0 else 1 := by
        rw [f_PI_mayPreset, if_pos rfl, if_neg (show ¬ (255 : Int32) < nI x from Int32.not_lt.mpr (nI_le (b := 255) d5 (by decide)))]
      have q2 : f_PI_mayPreset 1 (nI y) σ = if 1 ≤ nI y then 1 else 0 := by
        rw [f_PI_mayPreset, if_neg (by decide), if_pos rfl, if_neg (show ¬ (255 : Int32) < nI y from Int32.not_lt.mpr (nI_le (b := 255) d6 (by decide)))]
        by_cases z : 1 ≤ nI y
        · rw [if_neg (Int32.not_lt.mpr z), if_pos z]
        · rw [if_pos (Int32.not_le.mp z), if_neg z]
      rw [q1, q2]
      by_cases zx : nI x < 3
      · rw [if_pos zx, if_pos rfl, if_pos zx]
        exact flt 4 (by decide)
      · rw [if_neg zx, if_neg (by decide), if_neg zx]
        by_cases zy : 1 ≤ nI y
        · rw [if_pos zy, if_neg (by decide), if_pos zy]
          have s0 : ∀ v s, f_RO_set 34 (0 : Int32) v s = mput s 35 0 v := fun v s => ro_set (k := 34) (a := 35) (n := 3) (i := 0) wt_34_0 wl_35 (by decide) (by decide)
          have s1 : ∀ v s, f_RO_set 34 (1 : Int32) v s = mput s 35 1 v := fun v s => ro_set (k := 34) (a := 35) (n := 3) (i := 1) wt_34_0 wl_35 (by decide) (by decide)
          have F1 : RFr σ0 τ0 σ (mput τ 56 38 (nI x)) := F.put56 (by decide)
          rw [s0, s1, if_pos (rd_i B (show p + 5 < m by omega)), mput_slot (by decide), e32, e6, if_pos (rd_i B (show p + 6 < m by omega)), rd_r B F1 (show p + 6 < m by omega), hy]
          refine both_ret (Or.inr ⟨rfl, rfl, ((F.putC (by decide)).putC (by decide)).put56 (by decide) |>.put56 (by decide), ?_, ?_, w, h, b, c, x, y, rt, nn, sc, ?_, ?_, ?_, ?_, ?_, ?_⟩)
          · simp only [mput_cell, Nat.reduceEqDiff, not_false_eq_true]
          · simp only [mput_slot, Nat.reduceEqDiff, not_false_eq_true, e32]
          · unfold RHf at Hf ⊢
            simp only [mput_slot, mput_cell, Nat.reduceEqDiff, not_false_eq_true]
            exact Hf
          · unfold RHp at Hp ⊢
            simp only [mput_same, mput_slot, mput_cell, Nat.reduceEqDiff, not_false_eq_true]
            exact ⟨⟨trivial, trivial, Hp.1.2.2⟩, ⟨trivial, trivial, Hp.2.1.2.2⟩, d5, d6, Hp.2.2.2.2⟩
          · unfold RHn at Hn ⊢
            simp only [mput_slot, mput_cell, Nat.reduceEqDiff, not_false_eq_true]
            exact Hn
          · unfold RHt at Ht ⊢
            simp only [mput_slot, mput_cell, Nat.reduceEqDiff, not_false_eq_true]
            exact Ht
          · unfold RHs at Hs ⊢
            simp only [mput_slot, mput_cell, Nat.reduceEqDiff, not_false_eq_true]
            exact Hs
          · unfold RHz at Hz ⊢
            simp only [mput_slot, mput_cell, Nat.reduceEqDiff, not_false_eq_true]
            exact Hz
        · rw [if_neg zy, if_pos rfl, if_neg zy]
          exact flt 4 (by decide)
    · rw [if_neg (fun q => z5 (l5.mp q)), if_neg (fun q => z5 (l5.mp q))]
      exact flt 3 (by decide)
  · rw [if_neg t1, if_neg t1, if_neg t1]
    by_cases t2 : nI (d (p + 4)) = 2
    · rw [if_pos t2, if_pos t2, f_SR_takeTable, wt_30_0, wt_30_1, e5, e6]
      simp only [lt_eq, e32, e5, e6]
      have ft : f_PI_top 31 σ = nI (2 ^ b - 1) := by rw [f_PI_top, Hf.1.2.2.1, top_nI hb8]
      have fr : f_RM_topOf (τ 56 36) τ = nI (2 ^ b - 1) := by rw [f_RM_topOf, hd.1.2.2.2, top_nI hb8]
      rw [ft, fr, nI_top1 hb8]
      have e52 : (5 : Int32) + 2 * nI (2 ^ b) = nI (5 + 2 * 2 ^ b) := by rw [show (2 : Int32) = nI 2 from rfl, show (5 : Int32) = nI 5 from rfl, nI_mul, nI_add]
      rw [e52]
      by_cases zl : L = 5 + 2 * 2 ^ b
      · have hll : nI L = nI (5 + 2 * 2 ^ b) := by rw [← zl]
        rw [if_pos hll, if_pos hll, rd_c B F (show p + 5 < m by omega), if_pos (rd_i B (show p + 5 < m by omega)), rd_r B F (show p + 5 < m by omega), rd_c B F (show p + 6 < m by omega), rd_r B F (show p + 6 < m by omega)]
        have hcc : c ≤ 4 := Hf.2.2.2.2
        have eN : ∀ x : Int32, f_PI_hasComponent 31 x σ = inI x c := fun x => by unfold f_PI_hasComponent inI; rw [Hf.1.2.2.2]
        have eM : ∀ x : Int32, f_RM_isIn x (0 : Int32) (τ 56 37 - 1) τ = inI x c := fun x => by rw [Hf.2.1]; exact isIn0 (by omega)
        rw [eN, eM]
        rcases inI_cases (nI (d (p + 5)) - 1) (c := c) (by omega) with i1 | ⟨k1, hk1, ek1⟩
        · rw [i1, if_pos rfl, if_pos rfl]
          exact flt 6 (by decide)
        · rw [ek1, inI_yes hk1 (by omega), if_neg (show ¬ (1 : Int32) = 0 by decide), if_neg (show ¬ (1 : Int32) = 0 by decide)]
          have eT : f_PI_hasTable 31 (nI k1) σ = if τ 73 k1 = 0 then 0 else 1 := by
            rw [f_PI_hasTable, wt_31_2, ro_get (k := 36) (a := 37) (n := 4) wt_36_0 wl_37 (by omega) (by decide), (Ht.1 k1 (by omega)).1]
          rw [eT, wt_56_45, wl_73, if_pos (inb_nI (show k1 < 4 by omega) (by decide)), nI_clamp (show k1 < 2 ^ 31 by omega)]
          by_cases zt : τ 73 k1 = 0
          · rw [if_pos zt, if_pos rfl, if_pos zt, if_pos (rd_i B (show p + 6 < m by omega))]
            by_cases z62 : nI (d (p + 6)) = 2
            · rw [if_pos z62, if_pos z62, if_pos (inb_nI (show k1 < 4 by omega) (by decide)), f_PI_openTable, wt_31_2, ro_set (k := 36) (a := 37) (n := 4) wt_36_0 wl_37 (by omega) (by decide), lt_eq, open_loop (r := 31) (q := 38) (a := 39) wt_31_3 wt_38_0 wl_39 (by omega), Option.bind_some, Option.bind_some]
              have nz1 : nz 1 = 1 := by decide
              have F1 : RFr σ0 τ0 (zr (mput σ 37 k1 1) 39 (256 * k1) 256) (mput τ 73 k1 1) := ⟨fun k hk => by rw [zr_cell (by omega), mput_cell (by omega), F.1 k hk], (F.put (by decide)).2⟩
              obtain ⟨a, q, ea, eq, g1, g2, g3, g4, g5⟩ := r_numbers (b2 := nI L) (c1 := nI L) (c2 := nI (d (p + 4))) (k1 := k1) (N := 2 ^ b) B F1 (by rw [mput_cell (by decide), e32]) (by omega) hp (by omega)
              rw [nz1, ea, eq, Option.bind_some, Option.bind_some]
              refine both_ret (Or.inr ⟨rfl, rfl, g1, ?_, ?_, w, h, b, c, rs, st, rt, nn, sc, ?_, ?_, ?_, ?_, ?_, ?_⟩)
              · rw [g2 30 (by decide), zr_cell (by decide), mput_cell (by decide)]
              · rw [g3 56 (by decide), mput_cell (by decide)]
              · unfold RHf at Hf ⊢
                simp only [g2 31 (by decide), g3 56 (by decide), zr_cell, mput_slot, mput_cell, Nat.reduceEqDiff, not_false_eq_true]
                exact Hf
              · unfold RHp at Hp ⊢
                simp only [g2 35 (by decide), g3 56 (by decide), zr_cell, mput_slot, mput_cell, Nat.reduceEqDiff, not_false_eq_true]
                exact Hp
              · unfold RHn at Hn ⊢
                simp only [g2 40 (by decide), g2 42 (by decide), g2 44 (by decide), g2 46 (by decide), g3 56 (by decide), g3 75 (by decide), g3 76 (by decide), g3 77 (by decide), zr_cell, mput_slot, mput_cell, Nat.reduceEqDiff, not_false_eq_true]
                exact Hn
              · obtain ⟨i1, i2, i3⟩ := Ht
                unfold RHt
                simp only [g2 37 (by decide), g3 73 (by decide), zr_cell, mput_slot, mput_cell, Nat.reduceEqDiff, not_false_eq_true]
                refine ⟨?_, fun z => absurd z hc0, ?_⟩
                · intro k hk
                  by_cases e : k = k1
                  · rw [e, mput_same, mput_same]
                    exact ⟨rfl, Or.inr rfl⟩
                  · rw [mput_slot e, mput_slot e]
                    exact i1 k hk
                · intro k v hk hz hv
                  by_cases e : k = k1
                  · rw [e]
                    exact g4 v hv
                  · rw [mput_slot e] at hz
                    have hv2 : v < 256 := by omega
                    obtain ⟨j1, j2⟩ := g5 (256 * k + v) (by omega)
                    rw [j1, j2, mput_cell (by decide)]
                    have : zr (mput σ 37 k1 1) 39 (256 * k1) 256 39 (256 * k + v) = σ 39 (256 * k + v) := by
                      unfold zr
                      rw [if_neg (by omega), mput_cell (by decide)]
                    rw [this]
                    exact i3 k v hk hz hv
              · unfold RHs at Hs ⊢
                simp only [g2 55 (by decide), g2 33 (by decide), g2 30 (by decide), g3 78 (by decide), g3 72 (by decide), g3 56 (by decide), zr_cell, mput_slot, mput_cell, Nat.reduceEqDiff, not_false_eq_true]
                exact Hs
              · unfold RHz at Hz ⊢
                simp only [g2 30 (by decide), g2 47 (by decide), g3 56 (by decide), zr_cell, mput_slot, mput_cell, Nat.reduceEqDiff, not_false_eq_true]
                exact Hz
            · rw [if_neg z62, if_neg z62]
              exact flt 4 (by decide)
          · rw [if_neg zt, if_neg (by decide), if_neg zt]
            exact flt 5 (by decide)
      · have hll : ¬ nI L = nI (5 + 2 * 2 ^ b) := fun q => zl (nI_inj (by omega) (by omega) q)
        rw [if_neg hll, if_neg hll]
        exact flt 3 (by decide)
    · rw [if_neg t2, if_neg t2]
      exact flt 4 (by decide)
