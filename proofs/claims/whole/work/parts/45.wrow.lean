/-! writing: a sample, a row -/
def Eeq (a b c d : Nat → Int32) : Prop := ∀ k, k < 4 → a k = c k ∧ b k = d k
set_option maxRecDepth 100000 in
set_option maxHeartbeats 4000000 in
theorem WX.rows {σ0 τ0 σ τ σ1 τ1 : Mem} {ne tp rs st fr B : Nat} {T T1 : Nat → Nat → Nat → Prop} {E E1 : (Nat → Int32) → (Nat → Int32) → (Nat → Int32) → (Nat → Int32) → Prop} (H : WX σ0 τ0 σ τ ne tp rs st fr T E B) (hσ : ∀ k, ¬ k = 24 → ¬ k = 26 → ¬ k = 28 → σ1 k = σ k) (hτ : ∀ k, ¬ k = 79 → ¬ k = 80 → ¬ k = 81 → τ1 k = τ k) (hM : WM σ τ ne tp rs st fr T E → WM σ1 τ1 ne tp rs st fr T1 E1) : WX σ0 τ0 σ1 τ1 ne tp rs st fr T1 E1 B := by
  obtain ⟨n, cur, u, m, hb, hs, hw, hm⟩ := H
  have h56 := hτ 56 (by decide) (by decide) (by decide)
  refine ⟨n, cur, u, m, hb, ⟨fun k hk => by rw [hσ k (by omega) (by omega) (by omega), hs.1 k hk], ⟨fun k hk => by rw [hτ k (by omega) (by omega) (by omega), hs.2.1.1 k hk], fun j hj => by rw [h56, hs.2.1.2 j hj]⟩, ?_⟩, ?_, hM hm⟩
  · have h1 := hs.2.2
    unfold RSt at h1 ⊢
    rw [hσ 17 (by decide) (by decide) (by decide), hσ 18 (by decide) (by decide) (by decide), h56, hτ 63 (by decide) (by decide) (by decide)]
    exact h1
  · unfold WB at hw ⊢
    rw [hσ 29 (by decide) (by decide) (by decide), h56]
    exact hw
set_option maxRecDepth 100000 in
set_option maxHeartbeats 4000000 in
theorem WX.monoT {σ0 τ0 σ τ : Mem} {ne tp rs st fr B B1 : Nat} {T T1 : Nat → Nat → Nat → Prop} {E : (Nat → Int32) → (Nat → Int32) → (Nat → Int32) → (Nat → Int32) → Prop} (H : WX σ0 τ0 σ τ ne tp rs st fr T E B) (h : ∀ c x y, T1 c x y → T c x y) (hB : B ≤ B1) : WX σ0 τ0 σ τ ne tp rs st fr T1 E B1 := by
  obtain ⟨n, cur, u, m, hb, hs, hw, h1, h2, h3, h4⟩ := H
  exact ⟨n, cur, u, m, by omega, hs, hw, h1, h2, h3, fun c x y hT => h4 c x y (h c x y hT)⟩
set_option maxRecDepth 100000 in
set_option maxHeartbeats 4000000 in
theorem w_sample {σ0 τ0 σ τ : Mem} {w h b cc nn rs st rt ne tp fr B c x y : Nat} {T : Nat → Nat → Nat → Prop} (P : RPic σ0 τ0 w h b cc nn rs st rt) (e54 : τ0 56 54 = nI ne) (e55 : τ0 56 55 = nI tp) (hne : ne ≤ 3) (htp : tp ≤ 255) (H : WX σ0 τ0 σ τ ne tp rs st fr T Eeq B) (hB : B + 40 ≤ 42000) (hc : c < 4) (hx : x < 12) (hy : y < 12) (hfr : fr ≤ y)
    (hu : ¬ y = fr → T c x (y - 1)) (hl : ¬ x = 0 → T c (x - 1) y) (hul : ¬ y = fr → ¬ x = 0 → T c (x - 1) (y - 1)) :
    Both (f_SW_addSample 21 (nI c) (nI x) (nI y) (if y = fr then 1 else 0) σ) (f_RM_tell 56 (nI c) (nI x) (nI y) τ) (fun a d => WX σ0 τ0 a d ne tp rs st fr (fun c1 x1 y1 => T c1 x1 y1 ∨ (c1 = c ∧ x1 = x ∧ y1 = y)) Eeq (B + 32)) := by
  obtain ⟨n, cur, u, m, hb, hs, hw, ⟨m3, m4, m5, m6, m7, m8⟩, hf, hE, hT⟩ := id H
  have hi : 144 * c + 12 * y + x < 576 := by omega
  have t54 : τ 56 54 = nI ne := by rw [hs.2.1.2 54 (by omega), e54]
  have t55 : τ 56 55 = nI tp := by rw [hs.2.1.2 55 (by omega), e55]
  have g1 : f_RO_get (wtg 22 1) (nI c) σ = τ 80 c := by rw [wt_22_1, ro_get (k := 25) wt_25_0 wl_26 hc (by decide), (hE c hc).1]
  have g2 : f_RO_get (wtg 22 2) (nI c) σ = τ 81 c := by rw [wt_22_2, ro_get (k := 27) wt_27_0 wl_28 hc (by decide), (hE c hc).2]
  obtain ⟨p, hp, ep1, ep2⟩ := m_foretell (k0 := 22) (q := 23) (ra := 24) (c := c) (x := x) (y := y) (fr := fr) (σ := σ) (τ := τ) wt_22_0 wt_23_0 wl_24 hc hx hy hf hfr (fun z => hT _ _ _ (hu z)) (fun z => hT _ _ _ (hl z)) (fun z1 z2 => hT _ _ _ (hul z1 z2))
  obtain ⟨s, hsv, es⟩ := P.2.2.2.2.1.2 _ hi
  have es1 : f_RO_get 2 (nI (144 * c + 12 * y + x)) σ = nI s := by rw [ro_get (k := 2) wt_2_0 wl_3 hi (by decide), hs.1 3 (by omega), es]
  have es2 : τ 57 (144 * c + 12 * y + x) = nI s := by rw [hs.2.1.1 57 (by omega), ← P.2.2.2.2.1.1 _ hi, es]
  obtain ⟨V, eV, hV1, hV2⟩ := steps_n (s := s) (p := p) (ne := ne) hsv hp hne
  have hR : (tp + 2 * ne) / (2 * ne + 1) + 1 ≤ 300 := by
    have := Nat.div_le_self (tp + 2 * ne) (2 * ne + 1)
    omega
  obtain ⟨hy1, hy2⟩ := errE_n (R := (tp + 2 * ne) / (2 * ne + 1) + 1) hV1 hV2 hR
  obtain ⟨e, he, ee⟩ := foldE_n hy1 hy2
  obtain ⟨g, hg, eg1, eg2⟩ := clip_eq (tp := tp) (x := nI p + nI (2 * ne + 1) * V) htp
  generalize hY : errE V (nI ((tp + 2 * ne) / (2 * ne + 1) + 1)) = Y at *
  obtain ⟨r, hr, er1, -⟩ := m_shift (k0 := 22) (σ := σ) (τ := τ) hc g1 g2
  obtain ⟨r2, -, er2, er3⟩ := m_shift (k0 := 22) (σ := σ) (τ := mput τ 79 (144 * c + 12 * y + x) (nI g)) hc (by rw [mput_cell (by decide)]; exact g1) (by rw [mput_cell (by decide)]; exact g2)
  have err : nI r2 = nI r := by rw [er1] at er2; exact (Option.some.inj er2).symm
  rw [err] at er3
  have eC : f_SW_addSample 21 (nI c) (nI x) (nI y) (if y = fr then 1 else 0) σ = f_BK_code 29 (nI e) (nI r) (mput (mput (mput σ 24 (144 * c + 12 * y + x) (nI g)) 26 c (lrS (τ 80 c) (τ 81 c) (nI rs) Y)) 28 c (lrN (τ 81 c) (nI rs))) := by
    rw [f_SW_addSample, wt_21_0, wt_21_2, wt_21_3, wt_1_0, er1, Option.bind_some, ep1, place_nI, es1, m_tell (k0 := 22) (q := 23) (ra := 24) wt_22_0 wt_23_0 wl_24 (by decide) hi m3 m4 m5 m6 hne, lt_eq, lt_eq, eV, hY, eg1, ee, m_learn (k0 := 22) (q1 := 25) (r1 := 26) (q2 := 27) (r2 := 28) wt_22_1 wt_25_0 wl_26 wt_22_2 wt_27_0 wl_28 hc, bind_id]
    simp only [mput_cell, Nat.reduceEqDiff, not_false_eq_true, m7, (hE c hc).1, (hE c hc).2]
  have hstep : f_RM_step 56 τ = nI (2 * ne + 1) := by rw [f_RM_step, t54, step_n]
  have eR : f_RM_tell 56 (nI c) (nI x) (nI y) τ = R_tl (nI c) (nI x) (nI y) (nI (144 * c + 12 * y + x)) (nI p) (nI s - nI p) Y (mput τ 79 (144 * c + 12 * y + x) (nI g)) := by
    rw [rm_tell (v1 := nI (144 * c + 12 * y + x)) (S := nI (2 * ne + 1)) (R := nI ((tp + 2 * ne) / (2 * ne + 1) + 1)) place_nR ep2 (inb_nI hi (by decide)) hstep (step_nz hne) (fun x => rm_range (by rw [mput_cell (by decide), t54]) (by rw [mput_cell (by decide), t55]) hne htp), nI_cl hi (by decide), es2, t54, eV, lt_eq, hY, f_RM_clipped, t55, eg2]
  rw [eC, eR]
  unfold R_tl
  rw [er3, Option.bind_some, ee]
  have H1 : WX σ0 τ0 (mput (mput (mput σ 24 (144 * c + 12 * y + x) (nI g)) 26 c (lrS (τ 80 c) (τ 81 c) (nI rs) Y)) 28 c (lrN (τ 81 c) (nI rs))) (mput τ 79 (144 * c + 12 * y + x) (nI g)) ne tp rs st fr (fun c1 x1 y1 => T c1 x1 y1 ∨ (c1 = c ∧ x1 = x ∧ y1 = y)) (fun a1 a2 a3 a4 => a1 = upd (σ 26) c (lrS (τ 80 c) (τ 81 c) (nI rs) Y) ∧ a2 = upd (σ 28) c (lrN (τ 81 c) (nI rs)) ∧ a3 = τ 80 ∧ a4 = τ 81) B := by
    refine H.rows (fun k h1 h2 h3 => by rw [mput_cell h3, mput_cell h2, mput_cell h1]) (fun k h1 h2 h3 => mput_cell h1) (fun _ => ?_)
    unfold WM
    simp only [mput_row, mput_cell, Nat.reduceEqDiff, not_false_eq_true]
    refine ⟨⟨m3, m4, m5, m6, m7, m8⟩, hf, by simp, ?_⟩
    intro c1 x1 y1 hT1
    by_cases z : 144 * c1 + 12 * y1 + x1 = 144 * c + 12 * y + x
    · rw [z]
      exact ⟨g, by omega, by simp [upd], by simp [upd]⟩
    · rcases hT1 with hT1 | ⟨rfl, rfl, rfl⟩
      · obtain ⟨v, hv, v1, v2⟩ := hT c1 x1 y1 hT1
        exact ⟨v, hv, by simp only [upd, z, if_false]; exact v1, by simp only [upd, z, if_false]; exact v2⟩
      · exact absurd rfl z
  obtain ⟨a, d, ea, ed, H2⟩ := w_code (e := e) (r := r) (p1 := nI c) (p2 := nI x) (p3 := nI y) (p4 := nI (144 * c + 12 * y + x)) (p5 := nI p) (p6 := nI s - nI p) (p7 := Y) (p8 := nI e) (p9 := nI r) H1 hB (by omega) hr
  obtain ⟨n2, cur2, u2, m2, hb2, hs2, hw2, hmm2, hf2, ⟨i1, i2, i3, i4⟩, hT2⟩ := id H2
  refine ⟨a, _, ea, by rw [ed, Option.bind_some, hs2.2.1.2 9 (by omega), P.2.2.2.2.2.2.2.1.2.2.2.1, rm_count hc], ?_⟩
  refine H2.rows (fun _ _ _ _ => rfl) (fun k h1 h2 h3 => by rw [mput_cell h3, mput_cell h2]) (fun _ => ?_)
  unfold WM
  simp only [mput_row, mput_cell, Nat.reduceEqDiff, not_false_eq_true]
  refine ⟨hmm2, hf2, ?_, hT2⟩
  intro k hk
  rw [i1, i2, i3, i4]
  unfold upd
  by_cases z : k = c
  · simp [z]
  · simp only [z, if_false]
    exact hE k hk
/-- all rows before y are told -/
def TR (lo cn w fr y : Nat) (c x y1 : Nat) : Prop := lo ≤ c ∧ c < lo + cn ∧ x < w ∧ fr ≤ y1 ∧ y1 < y
def TL (lo cn w fr y j k : Nat) (c x y1 : Nat) : Prop := TR lo cn w fr y c x y1 ∨ (y1 = y ∧ lo ≤ c ∧ x < w ∧ (c < lo + j ∨ (c = lo + j ∧ x < k)))
def TS (lo cn w fr y j k : Nat) (c x y1 : Nat) : Prop := TR lo cn w fr y c x y1 ∨ (y1 = y ∧ lo ≤ c ∧ c < lo + cn ∧ (x < j ∨ (x = j ∧ c < lo + k)))
set_option maxRecDepth 100000 in
set_option maxHeartbeats 4000000 in
theorem w_line {σ0 τ0 σ τ : Mem} {w h b cc nn rs st rt ne tp fr B lo cn y : Nat} {b3 a4 f5 : Int32} (P : RPic σ0 τ0 w h b cc nn rs st rt) (e54 : τ0 56 54 = nI ne) (e55 : τ0 56 55 = nI tp) (hne : ne ≤ 3) (htp : tp ≤ 255) (hf5 : f5 = if y = fr then 1 else 0) (H : WX σ0 τ0 σ τ ne tp rs st fr (TR lo cn w fr y) Eeq B) (hB : B + 384 * cn + 40 ≤ 42000) (hc : lo + cn ≤ 4) (hw : w ≤ 12) (hy : y < 12) (hfr : fr ≤ y) :
    Both (L_SW_addRow_51 21 (nI lo) (nI cn) b3 (nI y) f5 0 (nI cn) (nI w) 9999 0 σ) (L_RM_data_94 56 (nI lo) (nI (lo + cn)) b3 a4 (nI y) 9999 (nI lo) τ) (fun a d => WX σ0 τ0 a.2 d.2 ne tp rs st fr (TR lo cn w fr (y + 1)) Eeq (B + 384 * cn)) := by
  subst hf5
  have r2 : τ0 56 2 = nI w := P.2.1.1
  have inner : ∀ j s t, j < cn → WX σ0 τ0 s t ne tp rs st fr (TL lo cn w fr y j 0) Eeq (B + 384 * j) → Both (L_SW_addRow_61 21 (nI lo) (nI cn) b3 (nI y) (if y = fr then 1 else 0) 0 (nI cn) (nI w) (nI j) 9999 0 s) (L_RM_data_103 56 (nI lo) (nI (lo + cn)) b3 a4 (nI y) (nI (lo + j)) 9999 0 t) (fun a d => WX σ0 τ0 a.2 d.2 ne tp rs st fr (TL lo cn w fr y (j + 1) 0) Eeq (B + 384 * (j + 1))) := by
    intro j s t hj hs
    refine loopB (C := fun f k s => L_SW_addRow_61 21 (nI lo) (nI cn) b3 (nI y) (if y = fr then 1 else 0) 0 (nI cn) (nI w) (nI j) f (nI k) s) (R := fun f k t => L_RM_data_103 56 (nI lo) (nI (lo + cn)) b3 a4 (nI y) (nI (lo + j)) f (nI k) t) (P := fun k s t => WX σ0 τ0 s t ne tp rs st fr (TL lo cn w fr y j k) Eeq (B + 384 * j + 32 * k)) (hi := w) ?_ ?_ w 9999 9999 0 s t (by omega) (by omega) (by omega) hs
    · intro s t hs f g
      refine ⟨(nI w, s), (nI w, t), ?_, ?_, hs.monoT ?_ (by omega)⟩
      · show L_SW_addRow_61 21 (nI lo) (nI cn) b3 (nI y) (if y = fr then 1 else 0) 0 (nI cn) (nI w) (nI j) (f + 1) (nI w) s = _
        rw [L_SW_addRow_61, if_pos (nI_le (Nat.le_refl _) (by omega))]
      · show L_RM_data_103 56 (nI lo) (nI (lo + cn)) b3 a4 (nI y) (nI (lo + j)) (g + 1) (nI w) t = _
        obtain ⟨n, cur, u, m, hb, hss, -⟩ := hs
        rw [L_RM_data_103, hss.2.1.2 2 (by omega), r2, if_pos (nI_le (Nat.le_refl _) (by omega))]
      · unfold TL TR
        intro c x y1 h1
        omega
    · intro k s t hk hs
      left
      obtain ⟨a, d, ea, ed, h9⟩ := w_sample (c := lo + j) (x := k) (y := y) P e54 e55 hne htp hs (by omega) (by omega) (by omega) hy hfr (by unfold TL TR; omega) (by unfold TL TR; omega) (by unfold TL TR; omega)
      refine ⟨a, d, fun f => ?_, fun f => ?_, h9.monoT ?_ (by omega)⟩
      · show L_SW_addRow_61 21 (nI lo) (nI cn) b3 (nI y) (if y = fr then 1 else 0) 0 (nI cn) (nI w) (nI j) (f + 1) (nI k) s = _
        rw [L_SW_addRow_61, if_neg (nI_ge hk (by omega)), if_pos rfl, if_pos rfl, nI_add, ea, Option.bind_some, nI_1]
      · show L_RM_data_103 56 (nI lo) (nI (lo + cn)) b3 a4 (nI y) (nI (lo + j)) (f + 1) (nI k) t = _
        obtain ⟨n, cur, u, m, hb, hss, -⟩ := hs
        rw [L_RM_data_103, hss.2.1.2 2 (by omega), r2, if_neg (nI_ge hk (by omega)), ed, Option.bind_some, nI_1]
      · unfold TL TR
        intro c x y1 h1
        omega
  refine loopB (C := fun f j s => L_SW_addRow_51 21 (nI lo) (nI cn) b3 (nI y) (if y = fr then 1 else 0) 0 (nI cn) (nI w) f (nI j) s) (R := fun f j t => L_RM_data_94 56 (nI lo) (nI (lo + cn)) b3 a4 (nI y) f (nI (lo + j)) t) (P := fun j s t => WX σ0 τ0 s t ne tp rs st fr (TL lo cn w fr y j 0) Eeq (B + 384 * j)) (hi := cn) ?_ ?_ cn 9999 9999 0 σ τ (by omega) (by omega) (by omega) (H.monoT ?_ (by omega))
  · intro s t hs f g
    refine ⟨(nI cn, s), (nI (lo + cn), t), ?_, ?_, hs.monoT ?_ (by omega)⟩
    · show L_SW_addRow_51 21 (nI lo) (nI cn) b3 (nI y) (if y = fr then 1 else 0) 0 (nI cn) (nI w) (f + 1) (nI cn) s = _
      rw [L_SW_addRow_51, if_pos (nI_le (Nat.le_refl _) (by omega))]
    · show L_RM_data_94 56 (nI lo) (nI (lo + cn)) b3 a4 (nI y) (g + 1) (nI (lo + cn)) t = _
      rw [L_RM_data_94, if_pos (nI_le (Nat.le_refl _) (by omega))]
    · unfold TL TR
      intro c x y1 h1
      omega
  · intro j s t hj hs
    left
    obtain ⟨a, d, ea, ed, h9⟩ := inner j s t hj hs
    refine ⟨a.2, d.2, fun f => ?_, fun f => ?_, h9⟩
    · show L_SW_addRow_51 21 (nI lo) (nI cn) b3 (nI y) (if y = fr then 1 else 0) 0 (nI cn) (nI w) (f + 1) (nI j) s = _
      rw [L_SW_addRow_51, if_neg (nI_ge hj (by omega)), ea, Option.bind_some, nI_1]
    · show L_RM_data_94 56 (nI lo) (nI (lo + cn)) b3 a4 (nI y) (f + 1) (nI (lo + j)) t = _
      rw [L_RM_data_94, if_neg (nI_ge (by omega) (by omega)), ed, Option.bind_some, nI_1]
      rfl
  · unfold TL TR
    intro c x y1 h1
    omega
set_option maxRecDepth 100000 in
set_option maxHeartbeats 4000000 in
theorem w_mix {σ0 τ0 σ τ : Mem} {w h b cc nn rs st rt ne tp fr B lo cn y : Nat} {b3 a4 f5 : Int32} (P : RPic σ0 τ0 w h b cc nn rs st rt) (e54 : τ0 56 54 = nI ne) (e55 : τ0 56 55 = nI tp) (hne : ne ≤ 3) (htp : tp ≤ 255) (hf5 : f5 = if y = fr then 1 else 0) (H : WX σ0 τ0 σ τ ne tp rs st fr (TR lo cn w fr y) Eeq B) (hB : B + 1536 + 40 ≤ 42000) (hc : lo + cn ≤ 4) (hw : w ≤ 12) (hy : y < 12) (hfr : fr ≤ y) :
    Both (L_SW_addRow_51 21 (nI lo) (nI cn) b3 (nI y) f5 1 (nI w) (nI cn) 9999 0 σ) (L_RM_data_48 56 (nI lo) (nI (lo + cn)) b3 a4 (nI y) 9999 0 τ) (fun a d => WX σ0 τ0 a.2 d.2 ne tp rs st fr (TR lo cn w fr (y + 1)) Eeq (B + 1536)) := by
  subst hf5
  have r2 : τ0 56 2 = nI w := P.2.1.1
  have inner : ∀ j s t, j < w → WX σ0 τ0 s t ne tp rs st fr (TS lo cn w fr y j 0) Eeq (B + 128 * j) → Both (L_SW_addRow_61 21 (nI lo) (nI cn) b3 (nI y) (if y = fr then 1 else 0) 1 (nI w) (nI cn) (nI j) 9999 0 s) (L_RM_data_60 56 (nI lo) (nI (lo + cn)) b3 a4 (nI y) (nI j) 9999 (nI lo) t) (fun a d => WX σ0 τ0 a.2 d.2 ne tp rs st fr (TS lo cn w fr y (j + 1) 0) Eeq (B + 128 * (j + 1))) := by
    intro j s t hj hs
    refine loopB (C := fun f k s => L_SW_addRow_61 21 (nI lo) (nI cn) b3 (nI y) (if y = fr then 1 else 0) 1 (nI w) (nI cn) (nI j) f (nI k) s) (R := fun f k t => L_RM_data_60 56 (nI lo) (nI (lo + cn)) b3 a4 (nI y) (nI j) f (nI (lo + k)) t) (P := fun k s t => WX σ0 τ0 s t ne tp rs st fr (TS lo cn w fr y j k) Eeq (B + 128 * j + 32 * k)) (hi := cn) ?_ ?_ cn 9999 9999 0 s t (by omega) (by omega) (by omega) hs
    · intro s t hs f g
      refine ⟨(nI cn, s), (nI (lo + cn), t), ?_, ?_, hs.monoT ?_ (by omega)⟩
      · show L_SW_addRow_61 21 (nI lo) (nI cn) b3 (nI y) (if y = fr then 1 else 0) 1 (nI w) (nI cn) (nI j) (f + 1) (nI cn) s = _
        rw [L_SW_addRow_61, if_pos (nI_le (Nat.le_refl _) (by omega))]
      · show L_RM_data_60 56 (nI lo) (nI (lo + cn)) b3 a4 (nI y) (nI j) (g + 1) (nI (lo + cn)) t = _
        rw [L_RM_data_60, if_pos (nI_le (Nat.le_refl _) (by omega))]
      · unfold TS TR
        intro c x y1 h1
        omega
    · intro k s t hk hs
      left
      obtain ⟨a, d, ea, ed, h9⟩ := w_sample (c := lo + k) (x := j) (y := y) P e54 e55 hne htp hs (by omega) (by omega) (by omega) hy hfr (by unfold TS TR; omega) (by unfold TS TR; omega) (by unfold TS TR; omega)
      refine ⟨a, d, fun f => ?_, fun f => ?_, h9.monoT ?_ (by omega)⟩
      · show L_SW_addRow_61 21 (nI lo) (nI cn) b3 (nI y) (if y = fr then 1 else 0) 1 (nI w) (nI cn) (nI j) (f + 1) (nI k) s = _
        rw [L_SW_addRow_61, if_neg (nI_ge hk (by omega)), if_neg (by decide), if_neg (by decide), nI_add, ea, Option.bind_some, nI_1]
      · show L_RM_data_60 56 (nI lo) (nI (lo + cn)) b3 a4 (nI y) (nI j) (f + 1) (nI (lo + k)) t = _
        rw [L_RM_data_60, if_neg (nI_ge (by omega) (by omega)), ed, Option.bind_some, nI_1]
        rfl
      · unfold TS TR
        intro c x y1 h1
        omega
  refine (loopB (C := fun f j s => L_SW_addRow_51 21 (nI lo) (nI cn) b3 (nI y) (if y = fr then 1 else 0) 1 (nI w) (nI cn) f (nI j) s) (R := fun f j t => L_RM_data_48 56 (nI lo) (nI (lo + cn)) b3 a4 (nI y) f (nI j) t) (P := fun j s t => WX σ0 τ0 s t ne tp rs st fr (TS lo cn w fr y j 0) Eeq (B + 128 * j)) (Q := fun a d => WX σ0 τ0 a.2 d.2 ne tp rs st fr (TR lo cn w fr (y + 1)) Eeq (B + 128 * w)) (hi := w) ?_ ?_ w 9999 9999 0 σ τ (by omega) (by omega) (by omega) (H.monoT ?_ (by omega))).mono (fun a d h => h.monoT (fun _ _ _ z => z) (by omega))
  · intro s t hs f g
    refine ⟨(nI w, s), (nI w, t), ?_, ?_, hs.monoT ?_ (by omega)⟩
    · show L_SW_addRow_51 21 (nI lo) (nI cn) b3 (nI y) (if y = fr then 1 else 0) 1 (nI w) (nI cn) (f + 1) (nI w) s = _
      rw [L_SW_addRow_51, if_pos (nI_le (Nat.le_refl _) (by omega))]
    · show L_RM_data_48 56 (nI lo) (nI (lo + cn)) b3 a4 (nI y) (g + 1) (nI w) t = _
      obtain ⟨n, cur, u, m, hb, hss, -⟩ := hs
      rw [L_RM_data_48, hss.2.1.2 2 (by omega), r2, if_pos (nI_le (Nat.le_refl _) (by omega))]
    · unfold TS TR
      intro c x y1 h1
      omega
  · intro j s t hj hs
    left
    obtain ⟨a, d, ea, ed, h9⟩ := inner j s t hj hs
    refine ⟨a.2, d.2, fun f => ?_, fun f => ?_, h9⟩
    · show L_SW_addRow_51 21 (nI lo) (nI cn) b3 (nI y) (if y = fr then 1 else 0) 1 (nI w) (nI cn) (f + 1) (nI j) s = _
      rw [L_SW_addRow_51, if_neg (nI_ge hj (by omega)), ea, Option.bind_some, nI_1]
    · show L_RM_data_48 56 (nI lo) (nI (lo + cn)) b3 a4 (nI y) (f + 1) (nI j) t = _
      obtain ⟨n, cur, u, m, hb, hss, -⟩ := hs
      rw [L_RM_data_48, hss.2.1.2 2 (by omega), r2, if_neg (nI_ge hj (by omega)), ed, Option.bind_some, nI_1]
  · unfold TS TR
    intro c x y1 h1
    omega
