/-! reading: restarts, presets, tables, notes -/
set_option maxRecDepth 100000 in
set_option maxHeartbeats 4000000 in
theorem r_restarts {σ0 τ0 σ τ : Mem} {m p w h b c rs st rt nn sc L : Nat} {d : Nat → Nat} (B : RB σ0 τ0 m d) (F : RFr σ0 τ0 σ τ) (H : RH σ τ w h b c rs st rt nn sc) (e32 : τ 56 32 = nI p) (hL : L = 256 * d (p + 2) + d (p + 3)) (h2 : 2 ≤ L) (hm : p + 2 + L ≤ m) :
    Both (some (f_SR_takeRestarts 30 (nI p) (nI L) σ)) (f_RM_isRestart 56 τ) (TK σ0 τ0 σ τ p) := by
  obtain ⟨Hf, Hp, Hn, Ht, Hs, Hz⟩ := id H
  have m6 : m ≤ 6000 := B.2.2.1
  have e2 : nI p + 2 = nI (p + 2) := nI_add p 2
  have e4 : nI p + 4 = nI (p + 4) := nI_add p 4
  rw [f_SR_takeRestarts, f_RM_isRestart, e32, e2, rd_wr B F (show p + 2 + 1 < m by omega), Option.bind_some, show p + 2 + 1 = p + 3 from rfl, ← hL, wt_30_0, wt_30_1, wt_31_1, e4]
  simp only [lt_eq]
  have l4 : nI L = 4 ↔ L = 4 := nI_eq (b := 4) (by omega) (by decide)
  by_cases z : L = 4
  · have d4 := (B.2.2.2 (p + 4) (by omega)).1
    have d5 := (B.2.2.2 (p + 5) (by omega)).1
    rw [if_pos (l4.mpr z), if_pos (l4.mpr z), rd_wr B F (show p + 4 + 1 < m by omega), rd_wc B F (show p + 4 + 1 < m by omega), Option.bind_some, show p + 4 + 1 = p + 5 from rfl, Option.bind_some]
    generalize hv : 256 * d (p + 4) + d (p + 5) = v
    have mp : f_PI_mayPreset 2 (nI v) σ = if nI v ≤ 12 then 1 else 0 := by
      rw [f_PI_mayPreset, if_neg (by decide), if_neg (by decide), if_pos rfl, if_neg (nI_pos (by omega))]
      by_cases z2 : nI v ≤ 12
      · rw [if_pos z2, if_neg (Int32.not_lt.mpr z2)]
      · rw [if_neg z2, if_pos (Int32.not_le.mp z2)]
    rw [mp]
    by_cases z2 : nI v ≤ 12
    · rw [if_pos z2, if_neg (by decide), if_pos z2, show (2 : Int32) = nI 2 from rfl, ro_set (k := 34) (a := 35) (n := 3) wt_34_0 wl_35 (by decide) (by decide)]
      have hv12 : v ≤ 12 := (nI_leI (b := 12) (by omega) (by decide)).mp z2
      refine both_ret (Or.inr ⟨rfl, rfl, (F.putC (by decide)).put56 (by decide), by show mput σ 35 2 (nI v) 30 = _; rw [mput_cell (by decide)], by show mput τ 56 40 (nI v) 56 32 = _; rw [mput_slot (by decide)], w, h, b, c, rs, st, v, nn, sc, ?_, ?_, ?_, ?_, ?_, ?_⟩)
      · unfold RHf at Hf ⊢
        simp only [mput_slot, mput_cell, Nat.reduceEqDiff, not_false_eq_true]
        exact Hf
      · unfold RHp at Hp ⊢
        simp only [mput_same, mput_slot, mput_cell, Nat.reduceEqDiff, not_false_eq_true]
        exact ⟨⟨Hp.1.1, Hp.1.2.1, trivial⟩, ⟨Hp.2.1.1, Hp.2.1.2.1, trivial⟩, Hp.2.2.1, Hp.2.2.2.1, hv12⟩
      · unfold RHn at Hn ⊢
        simp only [mput_slot, mput_cell, Nat.reduceEqDiff, not_false_eq_true]
        exact Hn
      · unfold RHt at Ht ⊢
        simp only [mput_slot, mput_cell, Nat.reduceEqDiff, not_false_eq_true]
        exact Ht
      · unfold RHs at Hs ⊢
        simp only [mput_slot, mput_cell, Nat.reduceEqDiff, not_false_eq_true]
        exact Hs
      · unfold RHz at Hz ⊢
        simp only [mput_slot, mput_cell, Nat.reduceEqDiff, not_false_eq_true]
        exact Hz
    · rw [if_neg z2, if_pos rfl, if_neg z2]
      exact both_ret (Or.inl ⟨4, by decide, rfl, rfl⟩)
  · rw [if_neg (fun q => z (l4.mp q)), if_neg (fun q => z (l4.mp q))]
    exact both_ret (Or.inl ⟨3, by decide, rfl, rfl⟩)
set_option maxRecDepth 100000 in
set_option maxHeartbeats 4000000 in
theorem r_note {σ0 τ0 σ τ : Mem} {m p w h b c rs st rt nn sc L : Nat} {d : Nat → Nat} (B : RB σ0 τ0 m d) (F : RFr σ0 τ0 σ τ) (H : RH σ τ w h b c rs st rt nn sc) (e32 : τ 56 32 = nI p) (hL : L = 256 * d (p + 2) + d (p + 3)) (h2 : 2 ≤ L) (hm : p + 2 + L ≤ m) :
    Both (f_SR_takeNote 30 (nI (d (p + 1))) (nI p) (nI L) σ) (f_RM_isNote 56 τ) (TK σ0 τ0 σ τ p) := by
  obtain ⟨Hf, Hp, Hn, Ht, Hs, Hz⟩ := id H
  obtain ⟨⟨n1, n2, n3⟩, n4⟩ := id Hn
  have m6 : m ≤ 6000 := B.2.2.1
  have e1 : nI p + 1 = nI (p + 1) := nI_add p 1
  have e2 : nI p + 2 = nI (p + 2) := nI_add p 2
  have e4 : nI p + 4 = nI (p + 4) := nI_add p 4
  have eL : nI L - 2 = nI (L - 2) := nI_sub (b := 2) h2
  have d1 := (B.2.2.2 (p + 1) (by omega)).1
  rw [f_SR_takeNote, f_RM_isNote, e32, e1, e2, rd_wr B F (show p + 2 + 1 < m by omega), Option.bind_some, show p + 2 + 1 = p + 3 from rfl, ← hL, wt_30_1, wt_31_4, eL, n2, f_NO_full, n1, wt_56_18, wl_64]
  simp only [lt_eq]
  have flt : Both (some ((4 : Int32), σ)) (some ((f_RM_broken 56 4 (nI p) τ).1, (f_RM_broken 56 4 (nI p) τ).2)) (TK σ0 τ0 σ τ p) := both_ret (Or.inl ⟨4, by decide, rfl, rfl⟩)
  by_cases z6 : nn = 6
  · subst z6
    rw [if_neg (show ¬ (if nI 6 < 6 then (0 : Int32) else 1) = 0 by decide), if_pos (show nI 6 = 6 from rfl), e32]
    exact flt
  have l6 : ¬ nI nn = 6 := fun q => z6 (nI_inj (b := 6) (by omega) (by decide) q)
  rw [if_pos (show nI nn < 6 from nI_lt (b := 6) (by omega) (by decide)), if_pos rfl, if_neg l6]
  by_cases z30n : ¬ L - 2 ≤ 30
  · rw [if_neg (show ¬ nI (L - 2) ≤ 30 from nI_ge (a := 30) (by omega) (by omega)), if_neg (show ¬ nI (L - 2) ≤ 30 from nI_ge (a := 30) (by omega) (by omega)), e32]
    exact flt
  have z30 : L - 2 ≤ 30 := Classical.not_not.mp z30n
  rw [if_pos (show nI (L - 2) ≤ 30 from nI_le (b := 30) z30 (by decide)), if_pos (show nI (L - 2) ≤ 30 from nI_le (b := 30) z30 (by decide)), if_pos (rd_i B (show p + 1 < m by omega)), rd_r B F (show p + 1 < m by omega)]
  have eK : ∀ x : Int32, f_NO_open 40 x σ = (nI nn, mput (mput (mput σ 42 nn x) 44 nn 0) 40 3 (nI (nn + 1))) := by
    intro x
    rw [f_NO_open, wt_40_0, wt_40_1, n1, ro_set (k := 41) (a := 42) (n := 6) wt_41_0 wl_42 (by omega) (by decide), lt_eq, ro_set (k := 43) (a := 44) (n := 6) wt_43_0 wl_44 (by omega) (by decide), lt_eq, lt_eq, mput_cell (by decide), mput_cell (by decide), n1, nI_1]
  obtain ⟨kd, hkd⟩ : ∃ kd : Int32, kd = (if nI (d (p + 1)) = 254 then 16 else nI (d (p + 1)) - 224) := ⟨_, rfl⟩
  have lp : Both (L_SR_takeNote_55 30 (nI (d (p + 1))) (nI p) (nI L) (nI nn) 9999 0 (mput (mput (mput σ 42 nn kd) 44 nn 0) 40 3 (nI (nn + 1)))) (L_RM_isNote_96 56 (nI (L - 2)) 9999 0 (mput (mput τ 75 nn kd) 76 nn (nI (L - 2)))) (fun a q => (RFr σ0 τ0 a.2 q.2 ∧ (∀ k, ¬ k = 46 → ¬ k = 44 → a.2 k = mput (mput (mput σ 42 nn kd) 44 nn 0) 40 3 (nI (nn + 1)) k) ∧ (∀ k, ¬ k = 77 → q.2 k = mput (mput τ 75 nn kd) 76 nn (nI (L - 2)) k)) ∧ a.2 44 nn = nI (L - 2) ∧ (∀ j, ¬ j = nn → a.2 44 j = σ 44 j) ∧ (∀ i, i < L - 2 → a.2 46 (30 * nn + i) = q.2 77 (30 * nn + i)) ∧ ∀ i, i < 30 * nn → a.2 46 i = σ 46 i ∧ q.2 77 i = τ 77 i) := by
    refine loopB (C := fun f j s => L_SR_takeNote_55 30 (nI (d (p + 1))) (nI p) (nI L) (nI nn) f (nI j) s) (R := fun f j t => L_RM_isNote_96 56 (nI (L - 2)) f (nI j) t) (P := fun j s t => (RFr σ0 τ0 s t ∧ (∀ k, ¬ k = 46 → ¬ k = 44 → s k = mput (mput (mput σ 42 nn kd) 44 nn 0) 40 3 (nI (nn + 1)) k) ∧ (∀ k, ¬ k = 77 → t k = mput (mput τ 75 nn kd) 76 nn (nI (L - 2)) k)) ∧ s 44 nn = nI j ∧ (∀ i, ¬ i = nn → s 44 i = σ 44 i) ∧ (∀ i, i < j → s 46 (30 * nn + i) = t 77 (30 * nn + i)) ∧ ∀ i, i < 30 * nn → s 46 i = σ 46 i ∧ t 77 i = τ 77 i) (hi := L - 2) ?_ ?_ (L - 2) 9999 9999 0 _ _ (by omega) (by omega) (by omega) ?_
    · intro s t hs f g
      refine ⟨(nI (L - 2), s), (nI (L - 2), t), ?_, ?_, hs⟩
      · show L_SR_takeNote_55 30 (nI (d (p + 1))) (nI p) (nI L) (nI nn) (f + 1) (nI (L - 2)) s = _
        rw [L_SR_takeNote_55, eL, if_pos (nI_le (Nat.le_refl _) (by omega))]
      · show L_RM_isNote_96 56 (nI (L - 2)) (g + 1) (nI (L - 2)) t = _
        rw [L_RM_isNote_96, if_pos (nI_le (Nat.le_refl _) (by omega))]
    · rintro j s t hj ⟨⟨f1, f2, f3⟩, g1, g2, g3, g4⟩
      left
      have t32 : t 56 32 = nI p := by rw [f3 56 (by decide), mput_cell (by decide), mput_cell (by decide), e32]
      have t41 : t 56 41 = nI nn := by rw [f3 56 (by decide), mput_cell (by decide), mput_cell (by decide), n2]
      have ep : nI p + 4 + nI j = nI (p + 4 + j) := by rw [e4, nI_add]
      have ei : nI nn * 30 + nI j = nI (30 * nn + j) := by
        rw [show (30 : Int32) = nI 30 from rfl, nI_mul, nI_add]
        congr 1; omega
      have ej : 30 * nI nn + nI j = nI (30 * nn + j) := by
        rw [show (30 : Int32) = nI 30 from rfl, nI_mul, nI_add]
      refine ⟨mput (mput s 46 (30 * nn + j) (nI (d (p + 4 + j)))) 44 nn (nI (j + 1)), mput t 77 (30 * nn + j) (nI (d (p + 4 + j))), fun f => ?_, fun f => ?_, ⟨?_, ?_, ?_⟩, ?_, ?_, ?_, ?_⟩
      · show L_SR_takeNote_55 30 (nI (d (p + 1))) (nI p) (nI L) (nI nn) (f + 1) (nI j) s = _
        rw [L_SR_takeNote_55, eL, if_neg (nI_ge hj (by omega)), wt_30_0, wt_30_1, wt_31_4, ep, rd_c B f1 (by omega), lt_eq, f_NO_append, wt_40_1, wt_40_2, ro_get (k := 43) (a := 44) (n := 6) wt_43_0 wl_44 (by omega) (by decide), g1, ei, ro_set (k := 45) (a := 46) (n := 180) wt_45_0 wl_46 (by omega) (by decide), lt_eq, nI_1, ro_set (k := 43) (a := 44) (n := 6) wt_43_0 wl_44 (by omega) (by decide), lt_eq]
      · show L_RM_isNote_96 56 (nI (L - 2)) (f + 1) (nI j) t = _
        rw [L_RM_isNote_96, if_neg (nI_ge hj (by omega)), t32, t41, ep, ej, wt_56_18, wl_64, wt_56_49, wl_77, if_pos (rd_i B (by omega)), if_pos (inb_nI (by omega) (by decide)), lt_eq, rd_r B f1 (by omega), nI_clamp (by omega), nI_1]
      · exact ((f1.putC (by decide)).putC (by decide)).put (by decide)
      · intro k h1 h2
        rw [mput_cell h2, mput_cell h1, f2 k h1 h2]
      · intro k h1
        rw [mput_cell h1, f3 k h1]
      · rw [mput_same]
      · intro i hi
        rw [mput_slot hi, mput_cell (by decide), g2 i hi]
      · intro i hi
        rw [mput_cell (by decide)]
        by_cases e : i = j
        · rw [e, mput_same, mput_same]
        · rw [mput_slot (by omega), mput_slot (by omega), g3 i (by omega)]
      · intro i hi
        rw [mput_cell (by decide), mput_slot (by omega), mput_slot (by omega)]
        exact g4 i hi
    · refine ⟨⟨(((F.putC (by decide)).putC (by decide)).putC (by decide)).put (by decide) |>.put (by decide), fun _ _ _ => rfl, fun _ _ => rfl⟩, ?_, ?_, fun i hi => by omega, ?_⟩
      · rw [mput_cell (by decide), mput_same]
        rfl
      · intro i hi
        rw [mput_cell (by decide), mput_slot hi, mput_cell (by decide)]
      · intro i hi
        simp only [mput_cell, Nat.reduceEqDiff, not_false_eq_true]
        exact ⟨trivial, trivial⟩
  obtain ⟨a, q, ea, eq, ⟨f1, f2, f3⟩, g1, g2, g3, g4⟩ := lp
  have eR : ∀ kx : Int32, kx = kd → (if inb (nI nn) (wln (wtg 56 47)) = true then (if inb (mput τ (wtg 56 47) (nI nn).toNatClampNeg kx 56 41) (wln (wtg 56 48)) = true then (L_RM_isNote_96 56 (nI (L - 2)) 9999 0 (mput (mput τ (wtg 56 47) (nI nn).toNatClampNeg kx) (wtg 56 48) (mput τ (wtg 56 47) (nI nn).toNatClampNeg kx 56 41).toNatClampNeg (nI (L - 2)))).bind fun q115 => some ((1 : Int32), mput q115.2 56 41 (q115.2 56 41 + 1)) else none) else none) = some (1, mput q.2 56 41 (nI (nn + 1))) := by
    intro kx hkx
    subst hkx
    rw [wt_56_47, wt_56_48, wl_75, wl_76, mput_cell (show ¬ 56 = 75 by decide), n2, nI_clamp (show nn < 2 ^ 31 by omega), if_pos (inb_nI (by omega) (by decide)), if_pos (inb_nI (by omega) (by decide)), eq, Option.bind_some, f3 56 (by decide), mput_cell (by decide), mput_cell (by decide), n2, nI_1]
  rw [← hkd, eK, ea, Option.bind_some]
  have eR2 : Both (some ((0 : Int32), a.2)) (some (1, mput q.2 56 41 (nI (nn + 1)))) (TK σ0 τ0 σ τ p) := by
    refine both_ret (Or.inr ⟨rfl, rfl, f1.put56 (by decide), ?_, ?_, w, h, b, c, rs, st, rt, nn + 1, sc, ?_, ?_, ?_, ?_, ?_, ?_⟩)
    · rw [f2 30 (by decide) (by decide)]
      simp only [mput_cell, Nat.reduceEqDiff, not_false_eq_true]
    · show mput q.2 56 41 (nI (nn + 1)) 56 32 = _
      rw [mput_slot (by decide), f3 56 (by decide)]
      simp only [mput_cell, Nat.reduceEqDiff, not_false_eq_true]
    · unfold RHf at Hf ⊢
      simp only [mput_slot, mput_same, Nat.reduceEqDiff, not_false_eq_true, f2 31 (by decide) (by decide), f3 56 (by decide), mput_cell]
      exact Hf
    · unfold RHp at Hp ⊢
      simp only [mput_slot, mput_same, Nat.reduceEqDiff, not_false_eq_true, f2 35 (by decide) (by decide), f3 56 (by decide), mput_cell]
      exact Hp
    · unfold RHn
      simp only [mput_slot, mput_same, Nat.reduceEqDiff, not_false_eq_true, f2 40 (by decide) (by decide), f2 42 (by decide) (by decide), f3 75 (by decide), f3 76 (by decide), mput_cell]
      refine ⟨⟨trivial, trivial, by omega⟩, ?_⟩
      intro k hk
      by_cases e : k = nn
      · subst e
        rw [mput_same, mput_same, mput_same]
        exact ⟨rfl, L - 2, z30, g1, rfl, g3⟩
      · rw [mput_slot e, mput_slot e, mput_slot e]
        obtain ⟨i1, z, hz, i2, i3, i4⟩ := n4 k (by omega)
        refine ⟨i1, z, hz, by rw [g2 k e, i2], i3, fun i hi => ?_⟩
        have := g4 (30 * k + i) (by omega)
        rw [this.1, this.2, i4 i hi]
    · unfold RHt at Ht ⊢
      simp only [mput_slot, mput_same, Nat.reduceEqDiff, not_false_eq_true, f2 37 (by decide) (by decide), f2 39 (by decide) (by decide), f3 73 (by decide), f3 74 (by decide), mput_cell]
      exact Ht
    · unfold RHs at Hs ⊢
      simp only [mput_slot, mput_same, Nat.reduceEqDiff, not_false_eq_true, f2 55 (by decide) (by decide), f2 33 (by decide) (by decide), f2 30 (by decide) (by decide), f3 78 (by decide), f3 72 (by decide), f3 56 (by decide), mput_cell]
      exact Hs
    · unfold RHz at Hz ⊢
      simp only [mput_slot, mput_same, Nat.reduceEqDiff, not_false_eq_true, f2 47 (by decide) (by decide), f2 30 (by decide) (by decide), f3 56 (by decide), mput_cell]
      exact Hz
  by_cases zk : nI (d (p + 1)) = 254
  · rw [if_pos zk, eR 16 (by rw [hkd, if_pos zk])]
    exact eR2
  · rw [if_neg zk, if_pos (rd_i B (show p + 1 < m by omega)), eR (nI (d (p + 1)) - 224) (by rw [hkd, if_neg zk])]
    exact eR2
