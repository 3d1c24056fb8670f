/-! reading: a scan whole -/
set_option maxRecDepth 100000 in
set_option maxHeartbeats 4000000 in
theorem copy_row {τ : Mem} {c : Nat} {b1 b2 : Int32} (hc : c < 4) : ∃ v t, L_RM_takeScan_91 56 b1 b2 (nI c) 9999 0 τ = some (v, t) ∧ (∀ k, ¬ k = 72 → t k = τ k) ∧ ∀ i, t 72 i = if 144 * c ≤ i ∧ i < 144 * c + 144 then τ 79 i else τ 72 i := by
  obtain ⟨a, ea, h1, h2⟩ := loopS (C := fun f j t => L_RM_takeScan_91 56 b1 b2 (nI c) f (nI j) t) (P := fun j t => (∀ k, ¬ k = 72 → t k = τ k) ∧ ∀ i, t 72 i = if 144 * c ≤ i ∧ i < 144 * c + j then τ 79 i else τ 72 i) (Q := fun a => (∀ k, ¬ k = 72 → a.2 k = τ k) ∧ ∀ i, a.2 72 i = if 144 * c ≤ i ∧ i < 144 * c + 144 then τ 79 i else τ 72 i) (hi := 144) (fun s hs n => ⟨(nI 144, s), by
      show L_RM_takeScan_91 56 b1 b2 (nI c) (n + 1) (nI 144) s = _
      rw [L_RM_takeScan_91, if_pos (by decide)], hs⟩) (fun k s hk hs => Or.inl ⟨mput s 72 (144 * c + k) (τ 79 (144 * c + k)), fun n => by
      show L_RM_takeScan_91 56 b1 b2 (nI c) (n + 1) (nI k) s = _
      have e1 : 144 * nI c + nI k = nI (144 * c + k) := by rw [show (144 : Int32) = nI 144 from rfl, nI_mul, nI_add]
      rw [L_RM_takeScan_91, if_neg (show ¬ (144 : Int32) ≤ nI k from nI_ge (b := 144) hk (by decide)), e1, wt_56_51, wl_79, wt_56_44, wl_72, if_pos (inb_nI (by omega) (by decide)), if_pos (inb_nI (by omega) (by decide)), nI_clamp (by omega), lt_eq, hs.1 79 (by decide), nI_1], fun j hj => by rw [mput_cell hj, hs.1 j hj], fun i => by
      by_cases e : i = 144 * c + k
      · subst e
        rw [mput_same, if_pos (by omega)]
      · rw [mput_slot e, hs.2 i]
        by_cases z : 144 * c ≤ i ∧ i < 144 * c + k
        · rw [if_pos z, if_pos (by omega)]
        · rw [if_neg z, if_neg (by omega)]⟩) 144 9999 0 τ (by omega) (by omega) ⟨fun _ _ => rfl, fun i => by rw [if_neg (by omega)]⟩
  exact ⟨a.1, a.2, ea, h1, h2⟩
set_option maxRecDepth 100000 in
set_option maxHeartbeats 4000000 in
theorem r_mark2 {σ τ : Mem} {lo cn : Nat} (hc : lo + cn ≤ 4) (h8 : σ 30 8 = nI lo) (h9 : σ 30 9 = nI cn) :
    Both (L_SR_endScan_5 30 9999 (nI lo) σ) (L_RM_takeScan_74 56 (nI cn) (nI lo) 9999 (nI lo) τ) (fun a q => (∀ k, ¬ k = 55 → a.2 k = σ k) ∧ (∀ i, a.2 55 i = if lo ≤ i ∧ i < lo + cn then 1 else σ 55 i) ∧ (∀ k, ¬ k = 72 → ¬ k = 78 → q.2 k = τ k) ∧ (∀ i, q.2 78 i = if lo ≤ i ∧ i < lo + cn then 1 else τ 78 i) ∧ ∀ i, q.2 72 i = if 144 * lo ≤ i ∧ i < 144 * (lo + cn) then τ 79 i else τ 72 i) := by
  have nz1 : nz 1 = 1 := by decide
  refine loopB (C := fun f j s => L_SR_endScan_5 30 f (nI (lo + j)) s) (R := fun f j t => L_RM_takeScan_74 56 (nI cn) (nI lo) f (nI (lo + j)) t) (P := fun j s t => (∀ k, ¬ k = 55 → s k = σ k) ∧ (∀ i, s 55 i = if lo ≤ i ∧ i < lo + j then 1 else σ 55 i) ∧ (∀ k, ¬ k = 72 → ¬ k = 78 → t k = τ k) ∧ (∀ i, t 78 i = if lo ≤ i ∧ i < lo + j then 1 else τ 78 i) ∧ ∀ i, t 72 i = if 144 * lo ≤ i ∧ i < 144 * (lo + j) then τ 79 i else τ 72 i) (hi := cn) ?_ ?_ cn 9999 9999 0 σ τ (by omega) (by omega) (by omega) ⟨fun _ _ => rfl, fun i => by rw [if_neg (by omega)], fun _ _ _ => rfl, fun i => by rw [if_neg (by omega)], fun i => by rw [if_neg (by omega)]⟩
  · rintro s t ⟨f1, f2, f3, f4, f5⟩ f g
    refine ⟨(nI (lo + cn), s), (nI (lo + cn), t), ?_, ?_, f1, f2, f3, f4, f5⟩
    · show L_SR_endScan_5 30 (f + 1) (nI (lo + cn)) s = _
      rw [L_SR_endScan_5, f1 30 (by decide), h8, h9, nI_add, if_pos (nI_le (Nat.le_refl _) (by omega))]
    · show L_RM_takeScan_74 56 (nI cn) (nI lo) (g + 1) (nI (lo + cn)) t = _
      rw [L_RM_takeScan_74, nI_add, if_pos (nI_le (Nat.le_refl _) (by omega))]
  · rintro j s t hj ⟨f1, f2, f3, f4, f5⟩
    left
    obtain ⟨v, t2, e1, e2, e3⟩ := copy_row (τ := mput t 78 (lo + j) 1) (c := lo + j) (b1 := nI cn) (b2 := nI lo) (by omega)
    refine ⟨mput s 55 (lo + j) 1, t2, fun f => ?_, fun f => ?_, ?_, ?_, ?_, ?_, ?_⟩
    · show L_SR_endScan_5 30 (f + 1) (nI (lo + j)) s = _
      rw [L_SR_endScan_5, f1 30 (by decide), h8, h9, nI_add, if_neg (nI_ge (by omega) (by omega)), lt_eq, wt_30_5, ro_set (k := 54) (a := 55) (n := 4) wt_54_0 wl_55 (by omega) (by decide), nI_1]
      rfl
    · show L_RM_takeScan_74 56 (nI cn) (nI lo) (f + 1) (nI (lo + j)) t = _
      rw [L_RM_takeScan_74, nI_add, if_neg (nI_ge (by omega) (by omega)), wt_56_50, wl_78, if_pos (inb_nI (by omega) (by decide)), nI_clamp (by omega), nz1, lt_eq, e1, Option.bind_some, nI_1]
      rfl
    · intro k hk
      rw [mput_cell hk, f1 k hk]
    · intro i
      by_cases e : i = lo + j
      · subst e
        rw [mput_same, if_pos (by omega)]
      · rw [mput_slot e, f2 i]
        by_cases z : lo ≤ i ∧ i < lo + j
        · rw [if_pos z, if_pos (by omega)]
        · rw [if_neg z, if_neg (by omega)]
    · intro k i1 i2
      rw [e2 k i1, mput_cell i2, f3 k i1 i2]
    · intro i
      rw [e2 78 (by decide)]
      by_cases e : i = lo + j
      · subst e
        rw [mput_same, if_pos (by omega)]
      · rw [mput_slot e, f4 i]
        by_cases z : lo ≤ i ∧ i < lo + j
        · rw [if_pos z, if_pos (by omega)]
        · rw [if_neg z, if_neg (by omega)]
    · intro i
      rw [e3 i, mput_cell (by decide), mput_cell (by decide), f3 79 (by decide) (by decide), f5 i]
      by_cases z : 144 * (lo + j) ≤ i ∧ i < 144 * (lo + j) + 144
      · rw [if_pos z, if_pos (by omega)]
      · rw [if_neg z]
        by_cases z2 : 144 * lo ≤ i ∧ i < 144 * (lo + j)
        · rw [if_pos z2, if_pos (by omega)]
        · rw [if_neg z2, if_neg (by omega)]
set_option maxRecDepth 100000 in
set_option maxHeartbeats 4000000 in
theorem r_data {σ0 τ0 σ τ : Mem} {m p w h b c rs st rt nn sc L lo cn ne tn : Nat} {d : Nat → Nat} (B : RB σ0 τ0 m d) (F : RFr σ0 τ0 σ τ) (H : RH σ τ w h b c rs st rt nn sc) (hc0 : ¬ c = 0) (hsc : sc ≤ 6000) (e32 : τ 56 32 = nI p) (hL : L = 256 * d (p + 2) + d (p + 3)) (hm : p + 2 + L ≤ m) (s6 : σ 30 6 = nI (p + 2 + L)) (s8 : σ 30 8 = nI lo) (s9 : σ 30 9 = nI cn) (s10 : σ 30 10 = nI ne) (s11 : σ 30 11 = nI tn) (t42 : τ 56 42 = nI ne) (t43 : τ 56 43 = nI tn) (hcn : 1 ≤ cn) (hlo : lo + cn ≤ c) (hne : ne ≤ 3) (htn : tn ≤ 2) (h1 : cn = 1 → d (p + 5) = lo + 1) (h0 : ¬ cn = 1 → lo = 0) (hLc : L = 6 + 2 * cn) (h4 : d (p + 4) = cn) :
    Both (f_SR_data 30 σ) (f_RM_takeScan 56 τ) (fun a q => FTm σ0 τ0 a q ∨ ∃ x, p + 2 + L ≤ x ∧ x ≤ m ∧ RFr σ0 τ0 a q ∧ a 30 6 = nI x ∧ q 56 32 = nI x ∧ RH a q w h b c rs st rt nn (sc + 1)) := by
  obtain ⟨Hf, Hp, Hn, Ht, Hs, Hz⟩ := id H
  have m6 : m ≤ 6000 := B.2.2.1
  have hc4 : c ≤ 4 := Hf.2.2.2.2
  obtain ⟨⟨f33, f34, f35, f36⟩, hw1, hw, hh1, hh, hb2, hb8⟩ := Hf.2.2.2.1 hc0
  obtain ⟨⟨p1, p2, p3⟩, ⟨q1, q2, q3⟩, hrs, hst, hrt⟩ := id Hp
  have hp := pow_le hb8
  have hq := pow_pos' (b := b)
  have hss : σ 30 13 = τ 56 31 := by rw [Hs.2.2.1.1, Hs.2.2.1.2.1]
  have S : BS σ0 τ0 σ τ m d := ⟨B, F, Hz, hss⟩
  have e2 : nI p + 2 = nI (p + 2) := nI_add p 2
  have e4 : nI p + 4 = nI (p + 4) := nI_add p 4
  have e5 : nI p + 5 = nI (p + 5) := nI_add p 5
  have eR : f_RM_takeScan 56 τ = (f_RM_hearData 56 (nI lo) (nI (lo + cn)) (mput τ 56 60 (nI (p + 2 + L)))).bind fun t => if t 56 28 ≤ 0 then (L_RM_takeScan_74 56 (nI cn) (nI lo) 9999 (nI lo) t).bind fun q => some (mput (mput q.2 56 31 (q.2 56 31 + 1)) 56 32 (mput q.2 56 31 (q.2 56 31 + 1) 56 60)) else some t := by
    rw [f_RM_takeScan, e32, e4, e5, e2, wt_56_18, wl_64, if_pos (rd_i B (show p + 4 < m by omega)), rd_r B F (show p + 4 < m by omega), h4, rd_wr B F (show p + 2 + 1 < m by omega), show p + 2 + 1 = p + 3 from rfl, ← hL, rd_r B F (show p + 5 < m by omega)]
    simp only [lt_eq, Option.bind_some, nI_add]
    by_cases z : cn = 1
    · have z1 : nI cn = 1 := by rw [z]; rfl
      rw [if_pos z1, if_pos (rd_i B (show p + 5 < m by omega)), h1 z, nI_pred, nI_add]
    · have z1 : ¬ nI cn = 1 := fun q => z (nI_inj (b := 1) (by omega) (by decide) q)
      rw [if_neg z1, h0 z]
      show ((f_RM_hearData 56 (nI 0) (nI 0 + nI cn) _).bind _) = _
      rw [nI_add]
      rfl
  have top : f_RM_topOf (nI b) τ = nI (2 ^ b - 1) := by rw [f_RM_topOf, top_nI hb8]
  have tt : ∀ t, f_RM_topOf (nI b) t = nI (2 ^ b - 1) := fun t => by rw [f_RM_topOf, top_nI hb8]
  rw [eR, f_SR_data, wt_30_4, wt_30_1, wt_30_3, wt_30_2, s10, m_begin (k0 := 49) (k1 := 31) wt_49_1 wt_50_0 wl_51 wt_49_2 wt_52_0 wl_53 wt_31_1 wt_34_0 wl_35 Hf.1.2.2.1 hb8 hne p1 p2 (by decide), Option.bind_some, f_RM_hearData]
  simp only [lt_eq, mput_same, mput_slot, Nat.reduceEqDiff, not_false_eq_true, t42, f36, tt, q2]
  rw [rm_begin, Option.bind_some, f_BO_begin]
  simp only [lt_eq, fillr_cell, mput_cell, Nat.reduceEqDiff, not_false_eq_true, s6]
  rw [wt_31_1, show (2 : Int32) = nI 2 from rfl, ro_get (k := 34) (a := 35) (n := 3) wt_34_0 wl_35 (by decide) (by decide)]
  simp only [fillr_cell, mput_cell, Nat.reduceEqDiff, not_false_eq_true, p3]
  generalize hs3 : mput (mput (mput (fillr (fillr (mput (mput (mput (mput (mput (mput σ 49 3 (nI (2 ^ b - 1))) 49 4 (nI ne)) 49 5 (nI (2 * ne + 1))) 49 6 (nI ((2 ^ b - 1 + 2 * ne) / (2 * ne + 1) + 1))) 49 7 (nI rs)) 49 8 (nI st)) 51 4 (nI st)) 53 4 1) 48 2 (nI (p + 2 + L))) 48 3 0) 48 4 0 = s3
  generalize ht4 : fillr (fillr (mput (mput (mput (mput (mput (mput τ 56 60 (nI (p + 2 + L))) 56 54 (nI ne)) 56 55 (nI (2 ^ b - 1))) 56 62 0) 56 64 0) 56 56 0) 80 4 (nI st)) 81 4 1 = t4
  have A0 : RXA σ τ m lo cn (p + 2 + L) ne (2 ^ b - 1) rs st 0 (TR lo cn w 0 0) s3 t4 := by
    subst hs3 ht4
    refine ⟨p + 2 + L, 0, 0, ⟨?_, ?_, ?_, ?_, ?_, ?_⟩, ⟨⟨?_, ?_, ?_⟩, ⟨?_, ?_, fun z => absurd z (by decide)⟩, ?_, hm, by decide, by decide⟩, Nat.le_refl _, ⟨?_, ?_, ?_, ?_, ?_, ?_⟩, ⟨?_, ?_, ?_⟩, ?_, ?_⟩
    · intro k hk
      rw [mput_cell (by omega), mput_cell (by omega), mput_cell (by omega), fillr_cell (by omega), fillr_cell (by omega)]
      simp only [mput_cell (show ¬ k = 49 by omega)]
    · intro j hj
      simp only [fillr_cell, mput_cell, Nat.reduceEqDiff, not_false_eq_true]
    · intro i hi
      simp only [fillr_cell, mput_cell, Nat.reduceEqDiff, not_false_eq_true]
    · intro k hk
      rw [fillr_cell (by omega), fillr_cell (by omega)]
      simp only [mput_cell (show ¬ k = 56 by omega)]
    · intro j hj
      rw [fillr_cell (by decide), fillr_cell (by decide), mput_slot (by omega), mput_slot (by omega), mput_slot (by omega), mput_slot (by omega), mput_slot (by omega), mput_slot (by omega)]
    · simp only [fillr_cell, mput_slot, mput_cell, Nat.reduceEqDiff, not_false_eq_true]
      exact Hz.1
    · simp only [mput_same, mput_slot, Nat.reduceEqDiff, not_false_eq_true]
    · simp only [mput_same, mput_slot, Nat.reduceEqDiff, not_false_eq_true]; rfl
    · simp only [mput_same]; rfl
    · simp only [fillr_cell, mput_same, mput_slot, Nat.reduceEqDiff, not_false_eq_true]
    · simp only [fillr_cell, mput_same, mput_slot, Nat.reduceEqDiff, not_false_eq_true]; rfl
    · simp only [fillr_cell, mput_same, mput_slot, Nat.reduceEqDiff, not_false_eq_true]
    · simp only [fillr_cell, mput_same, mput_slot, mput_cell, Nat.reduceEqDiff, not_false_eq_true]
    · simp only [fillr_cell, mput_same, mput_slot, mput_cell, Nat.reduceEqDiff, not_false_eq_true]
    · simp only [fillr_cell, mput_same, mput_slot, mput_cell, Nat.reduceEqDiff, not_false_eq_true]
    · simp only [fillr_cell, mput_same, mput_slot, mput_cell, Nat.reduceEqDiff, not_false_eq_true]
    · simp only [fillr_cell, mput_same, mput_slot, mput_cell, Nat.reduceEqDiff, not_false_eq_true]
    · simp only [fillr_cell, mput_same, mput_slot, mput_cell, Nat.reduceEqDiff, not_false_eq_true]
    · simp only [fillr_cell, mput_same, mput_slot, Nat.reduceEqDiff, not_false_eq_true]
    · simp only [fillr_cell, mput_same, mput_slot, Nat.reduceEqDiff, not_false_eq_true]
    · simp only [fillr_cell, mput_same, mput_slot, Nat.reduceEqDiff, not_false_eq_true]; rfl
    · intro k hk
      simp [fillr_row, fillr_cell, mput_cell, hk]
    · intro c1 x1 y1 z
      unfold TR at z
      omega
  have c0 : C_rb (nI rt) 0 0 s3 = some (0, 0, s3) := by
    unfold C_rb
    by_cases z : nI rt = 0
    · rw [if_pos z]
    · rw [if_neg z, if_neg (fun z2 => z z2.symm)]
  obtain ⟨v6, vm, v9, v5⟩ : s3 31 6 = nI h ∧ f_FA_met 47 s3 = 0 ∧ s3 30 9 = nI cn ∧ s3 31 5 = nI w := by
    obtain ⟨x, cur, lf, g1, -⟩ := A0
    obtain ⟨F1, Z1, -⟩ := g1.fr S
    exact ⟨by rw [g1.1 31 (by omega), Hf.1.2.1], Z1.met, by rw [g1.2.1 9 (by omega), s9], by rw [g1.1 31 (by omega), Hf.1.1]⟩
  have e9 : L_SR_data_45 30 (nI rt) 9999 0 0 0 s3 = (f_SR_takeRow 30 (nI 0) (if nI (0 - 0) = 0 then 1 else 0) s3).bind fun s => L_SR_data_45 30 (nI rt) 9998 (nI 0) (nI (0 - 0) + 1) (nI 0 + 1) s := by
    rw [data45 (n := 9998) (by rw [v6]; exact nI_ge (a := 0) (b := h) (by omega) (by omega)) vm, c0, Option.bind_some]
    rfl
  rw [Option.bind_assoc, e9]
  have hd : h - 1 + 1 = h := by omega
  have h9 := r_rows (lo := lo) (cn := cn) (xb := p + 2 + L) (ne := ne) (tp := 2 ^ b - 1) (rs := rs) (st := st) (h := h) (w := w) (rt := rt) (tn := tn) S q1 q2 f35 q3 hrt hne (by omega) hcn (by omega) hw1 hw hh htn s8 s9 s11 Hf.1.1 Hf.1.2.1 t43 f34 (h - 1) 0 0 0 9998 9999 s3 t4 (by omega) ⟨by omega, fun _ => rfl, fun z => ⟨Nat.zero_mod _, z⟩⟩ (by omega) (by omega) (by omega) ⟨v9, v5⟩ (Or.inl A0)
  refine both_bind h9 (fun A D H1 => ?_)
  have endF : ∀ s t : Mem, FTm σ0 τ0 s t → Both (some s) (if t 56 28 ≤ 0 then (L_RM_takeScan_74 56 (nI cn) (nI lo) 9999 (nI lo) t).bind fun q => some (mput (mput q.2 56 31 (q.2 56 31 + 1)) 56 32 (q.2 56 60)) else some t) (fun a q => FTm σ0 τ0 a q ∨ ∃ x, p + 2 + L ≤ x ∧ x ≤ m ∧ RFr σ0 τ0 a q ∧ a 30 6 = nI x ∧ q 56 32 = nI x ∧ RH a q w h b c rs st rt nn (sc + 1)) := by
    intro s t hF
    rw [if_neg hF.2.2.2.2.2.2.2]
    exact both_ret (Or.inl hF)
  rcases H1 with ⟨fr2, x, cur, lf, HF, Hb, hxb, Hm⟩ | H1
  · obtain ⟨F1, Z1, hss1⟩ := HF.fr S
    rw [Z1.met, if_pos rfl, Z1.2.2.1, if_pos rfl]
    obtain ⟨s5, t5, es5, et5, hfr5, h5⟩ := r_end S HF Hb Hm
    have es6 : f_BO_close 48 A.2.2.2 = s5 := Option.some.inj es5
    rw [es6, et5, Option.bind_some, Option.bind_some]
    rcases h5 with ⟨x1, hx1, hx1m, HF2, c2, u60, u62, u64, Hm2⟩ | h5
    · obtain ⟨F2, Z2, hss2⟩ := HF2.fr S
      rw [Z2.met, if_pos rfl, Z2.2.2.1, if_pos (show (0 : Int32) ≤ 0 by decide)]
      have k8 : s5 30 8 = nI lo := by rw [HF2.2.1 8 (by omega), s8]
      have k9 : s5 30 9 = nI cn := by rw [HF2.2.1 9 (by omega), s9]
      obtain ⟨a, q, ea, eq, g1, g2, g3, g4, g5⟩ := r_mark2 (σ := s5) (τ := t5) (lo := lo) (cn := cn) (by omega) k8 k9
      have en : ∀ s, f_BO_next 48 s = s 48 2 := fun _ => rfl
      rw [eq, Option.bind_some, f_SR_endScan, k8, ea, Option.bind_some]
      simp only [lt_eq]
      rw [wt_30_3, en, mput_cell (show ¬ 48 = 30 by decide), g1 48 (by decide), g1 30 (by decide), c2, g3 56 (by decide) (by decide), u60, Option.bind_some]
      have sc1 : s5 30 13 = nI sc := by rw [HF2.2.1 13 (by omega), Hs.2.2.1.1]
      have tc1 : t5 56 31 = nI sc := by rw [HF2.2.2.2.2.1 31 (by omega), Hs.2.2.1.2.1]
      rw [sc1, tc1, nI_1]
      obtain ⟨y1, y2, y3, y4, y5, y6⟩ := HF2
      have w55 : s5 55 = σ 55 := y1 55 (by omega)
      have w78 : t5 78 = τ 78 := y4 78 (by omega)
      have w72 : t5 72 = τ 72 := y4 72 (by omega)
      refine both_ret (Or.inr ⟨x1, by omega, hx1m, ⟨?_, ?_, ?_⟩, mput_same, mput_same, ?_, ?_, ?_, ?_, ?_, ?_⟩)
      · intro k hk
        rw [mput_cell (by omega), mput_cell (by omega), g1 k (by omega), F2.1 k hk]
      · intro k i1 i2
        rw [mput_cell i1, mput_cell i1, g3 k (by omega) (by omega), F2.2.1 k i1 i2]
      · intro j hj
        rw [mput_slot (by omega), mput_slot (by omega), g3 56 (by decide) (by decide), F2.2.2 j hj]
      · unfold RHf at Hf ⊢
        simp only [mput_slot, mput_cell, Nat.reduceEqDiff, not_false_eq_true, g1 31 (by decide), g3 56 (by decide) (by decide), y1 31 (by omega), y5 37 (by omega), y5 33 (by omega), y5 34 (by omega), y5 35 (by omega), y5 36 (by omega)]
        exact Hf
      · unfold RHp at Hp ⊢
        simp only [mput_slot, mput_cell, Nat.reduceEqDiff, not_false_eq_true, g1 35 (by decide), g3 56 (by decide) (by decide), y1 35 (by omega), y5 38 (by omega), y5 39 (by omega), y5 40 (by omega)]
        exact Hp
      · unfold RHn at Hn ⊢
        simp only [mput_slot, mput_cell, Nat.reduceEqDiff, not_false_eq_true, g1 40 (by decide), g1 42 (by decide), g1 44 (by decide), g1 46 (by decide), g3 56 (by decide) (by decide), g3 75 (by decide) (by decide), g3 76 (by decide) (by decide), g3 77 (by decide) (by decide), y1 40 (by omega), y1 42 (by omega), y1 44 (by omega), y1 46 (by omega), y5 41 (by omega), y4 75 (by omega), y4 76 (by omega), y4 77 (by omega)]
        exact Hn
      · unfold RHt at Ht ⊢
        simp only [mput_slot, mput_cell, Nat.reduceEqDiff, not_false_eq_true, g1 37 (by decide), g1 39 (by decide), g3 73 (by decide) (by decide), g3 74 (by decide) (by decide), y1 37 (by omega), y1 39 (by omega), y4 73 (by omega), y4 74 (by omega)]
        exact Ht
      · obtain ⟨i1, i2, i3, i4, i5⟩ := Hs
        obtain ⟨-, -, -, hT2⟩ := Hm2
        unfold RHs
        simp only [mput_same, mput_slot, mput_cell, Nat.reduceEqDiff, not_false_eq_true, g1 33 (by decide), g1 30 (by decide), g3 56 (by decide) (by decide)]
        refine ⟨?_, ?_, ⟨trivial, trivial, by omega⟩, fun z => by simp at z, fun _ => ⟨⟨?_, ?_⟩, lo, by omega, ?_⟩⟩
        · intro k hk
          rw [g2 k, g4 k, w55, w78]
          by_cases z : lo ≤ k ∧ k < lo + cn
          · rw [if_pos z, if_pos z]
          · rw [if_neg z, if_neg z]
            exact i1 k hk
        · intro k x y hk hz hx hy
          rw [g2 k, w55] at hz
          rw [g5]
          by_cases z : lo ≤ k ∧ k < lo + cn
          · obtain ⟨v, hv, v1, v2⟩ := hT2 k x y (by unfold TR; omega)
            rw [if_pos (by omega)]
            exact ⟨v, by omega, v1, v2⟩
          · rw [if_neg z] at hz
            obtain ⟨v, hv, v1, v2⟩ := i2 k x y hk hz hx hy
            rw [if_neg (by omega), y3 _ (by omega), w72]
            exact ⟨v, hv, v1, v2⟩
        · rw [y2 10 (by omega), s10, y5 42 (by omega), t42]
        · rw [y2 11 (by omega), s11, y5 43 (by omega), t43]
        · rw [g2 lo, if_pos (by omega)]
          decide
      · unfold RHz at Hz ⊢
        simp only [mput_slot, mput_cell, Nat.reduceEqDiff, not_false_eq_true, g1 30 (by decide), g1 47 (by decide), g3 56 (by decide) (by decide)]
        exact ⟨y6, by rw [y1 47 (by omega), Hz.2.1], by rw [y5 28 (by omega), Hz.2.2.1], by rw [y2 7 (by omega), Hz.2.2.2]⟩
    · rw [h5.met, if_neg (show ¬ (1 : Int32) = 0 by decide)]
      exact endF _ _ h5
  · rw [H1.met, if_neg (show ¬ (1 : Int32) = 0 by decide), if_neg (show ¬ (1 : Int32) = 0 by decide), if_neg (show ¬ D.2.2 56 28 = 0 by rw [← H1.2.1]; exact H1.2.2.1), Option.bind_some]
    exact endF _ _ H1
