/-! writing: the stream whole -/
def R_scn (x : Int32) (τ : Mem) : Option Mem := if τ 56 0 = 0 then (L_RM_write_420 56 x 9999 0 τ).bind fun q => some q.2 else if τ 56 5 = 1 then (L_RM_write_420 56 x 9999 0 τ).bind fun q => some q.2 else f_RM_scan 56 0 (τ 56 5) (τ 56 0) τ
/-- the reference's stream, part by part -/
def R_str (x : Int32) (τ : Mem) : Option Mem :=
  ((f_RM_lay 56 255 τ).bind fun t1 => f_RM_lay 56 216 t1).bind fun t2 =>
  (L_RM_write_75 56 x 9999 0 t2).bind fun q =>
  ((f_RM_mark 56 247 (8 + 3 * (q.2 56 5)) q.2).bind fun t1 => (f_RM_lay 56 (t1 56 4) t1).bind fun t2 => (f_RM_layWide 56 (t2 56 3) t2).bind fun t3 => (f_RM_layWide 56 (t3 56 2) t3).bind fun t4 => (f_RM_lay 56 (t4 56 5) t4).bind fun t5 => L_RM_write_211 56 x 9999 0 t5).bind fun q2 =>
  (R_pre q2.2).bind fun t3 =>
  (L_RM_write_291 56 x 9999 0 t3).bind fun q3 =>
  (R_rst q3.2).bind fun t4 =>
  (R_scn x t4).bind fun t5 =>
  (f_RM_lay 56 255 t5).bind fun t6 => f_RM_lay 56 217 t6
set_option maxRecDepth 100000 in
set_option maxHeartbeats 4000000 in
theorem rm_write {x : Int32} {τ : Mem} (h5 : ¬ τ 56 5 = 0) (hx : f_RM_isIn x 0 3 τ = 1) : f_RM_write 56 x τ = (R_str x (mput (mput (mput (mput τ 56 1 0) 56 54 x) 56 55 (f_RM_topOf (τ 56 4) τ)) 56 17 0)).bind fun t => some (t 56 17, t) := by
  have ht : ∀ t, f_RM_topOf (τ 56 4) t = f_RM_topOf (τ 56 4) τ := fun _ => rfl
  have kS : ∀ t : Mem, (if t 56 0 = 0 then (L_RM_write_420 56 x 9999 0 t).bind fun q => (f_RM_lay 56 255 q.2).bind fun t6 => (f_RM_lay 56 217 t6).bind fun t7 => some (t7 56 17, t7) else if t 56 5 = 1 then (L_RM_write_420 56 x 9999 0 t).bind fun q => (f_RM_lay 56 255 q.2).bind fun t6 => (f_RM_lay 56 217 t6).bind fun t7 => some (t7 56 17, t7) else (f_RM_scan 56 0 (t 56 5) (t 56 0) t).bind fun t5 => (f_RM_lay 56 255 t5).bind fun t6 => (f_RM_lay 56 217 t6).bind fun t7 => some (t7 56 17, t7)) = (R_scn x t).bind fun t5 => (f_RM_lay 56 255 t5).bind fun t6 => (f_RM_lay 56 217 t6).bind fun t7 => some (t7 56 17, t7) := by
    intro t
    unfold R_scn
    by_cases h1 : t 56 0 = 0
    · rw [if_pos h1, if_pos h1, Option.bind_assoc]
      rfl
    · by_cases h2 : t 56 5 = 1
      · rw [if_neg h1, if_neg h1, if_pos h2, if_pos h2, Option.bind_assoc]
        rfl
      · rw [if_neg h1, if_neg h1, if_neg h2, if_neg h2]
  have kR : ∀ (g : Mem → Option (Int32 × Mem)) (t : Mem), (if t 56 11 ≤ 0 then g t else (f_RM_mark 56 221 4 t).bind fun t1 => (f_RM_layWide 56 (t1 56 11) t1).bind g) = (R_rst t).bind g := by
    intro g t
    unfold R_rst
    by_cases h1 : t 56 11 ≤ 0
    · rw [if_pos h1, if_pos h1, Option.bind_some]
    · rw [if_neg h1, if_neg h1, Option.bind_assoc]
  have kP : ∀ (g : Mem → Option (Int32 × Mem)) (t : Mem), (if t 56 9 = 64 then (if t 56 10 = 4 then g t else (f_RM_mark 56 248 5 t).bind fun t1 => (f_RM_lay 56 1 t1).bind fun t2 => (f_RM_lay 56 (t2 56 9) t2).bind fun t3 => (f_RM_lay 56 (t3 56 10) t3).bind g) else (f_RM_mark 56 248 5 t).bind fun t1 => (f_RM_lay 56 1 t1).bind fun t2 => (f_RM_lay 56 (t2 56 9) t2).bind fun t3 => (f_RM_lay 56 (t3 56 10) t3).bind g) = (R_pre t).bind g := by
    intro g t
    unfold R_pre
    by_cases h1 : t 56 9 = 64
    · by_cases h2 : t 56 10 = 4
      · rw [if_pos h1, if_pos h1, if_pos h2, if_pos h2, Option.bind_some]
      · rw [if_pos h1, if_pos h1, if_neg h2, if_neg h2]
        simp only [Option.bind_assoc]
    · rw [if_neg h1, if_neg h1]
      simp only [Option.bind_assoc]
  rw [f_RM_write, if_neg h5, hx, if_neg (by decide), lt_eq, mput_same, if_pos (by decide)]
  unfold R_str
  simp only [lt_eq, kS, kR, kP, mput_slot, mput_same, Nat.reduceEqDiff, not_false_eq_true, ht, Option.bind_assoc]
def SK (σ : Mem) : Prop := σ 29 1 = 0 ∧ σ 29 2 = 8
set_option maxRecDepth 100000 in
set_option maxHeartbeats 4000000 in
theorem w_scans {σ τ : Mem} {w h b c nn rs st rt ne n t : Nat} {x : Int32} (P : RPic σ τ w h b c nn rs st rt) (hc0 : 1 ≤ c) (hd : 1 ≤ w ∧ w ≤ 12 ∧ 1 ≤ h ∧ h ≤ 12 ∧ 2 ≤ b ∧ b ≤ 8 ∧ 1 ≤ c ∧ c ≤ 4) (hne : ne ≤ 3) (e54 : τ 56 54 = nI ne) (e55 : τ 56 55 = nI (2 ^ b - 1)) (e0 : τ 56 0 = nI t) (ht : t ≤ 2) (hS : RSt σ τ n) (hk : SK σ) (hn : n ≤ 2317) :
    Both (if nI t = 0 then (L_SW_stream_40 21 (nI t) (nI ne) 9999 0 σ).bind fun q => some q.2 else f_SW_scan 21 0 (σ 1 8) (nI ne) (if σ 1 8 = 1 then 0 else nI t) σ) (R_scn x τ) (fun a d => ∃ n2, n2 + 10 ≤ 6000 ∧ WS 0 σ τ a d n2 ∧ SK a) := by
  obtain ⟨d1, d2, d3, d4, d5, d6, d7, d8⟩ := hd
  have s8 : σ 1 8 = nI c := P.1.2.2.2
  have r5 : τ 56 5 = nI c := P.2.1.2.2.2
  unfold R_scn
  rw [e0, r5, s8]
  by_cases h0 : t = 0
  · subst h0
    rw [if_pos (show nI 0 = 0 from rfl), if_pos (show nI 0 = 0 from rfl)]
    refine both_bind (Q := fun a d => ∃ n2, n2 + 10 ≤ 6000 ∧ WS 0 σ τ a.2 d.2 n2 ∧ SK a.2) ?_ (fun a d h9 => both_ret h9)
    refine loopB (C := fun f j s => L_SW_stream_40 21 (nI 0) (nI ne) f (nI j) s) (R := fun f j t => L_RM_write_420 56 x f (nI j) t) (P := fun j s t => ∃ n2, 7 * n2 ≤ 16219 + 4937 * j ∧ WS 0 σ τ s t n2 ∧ SK s) (hi := c) ?_ ?_ c 9999 9999 0 σ τ (by omega) (by omega) (by omega) ⟨n, by omega, WS.refl hS, hk⟩
    · rintro s t ⟨n2, hn2, hs, hk2⟩ f g
      refine ⟨(nI c, s), (nI c, t), ?_, ?_, n2, by omega, hs, hk2⟩
      · show L_SW_stream_40 21 (nI 0) (nI ne) (f + 1) (nI c) s = _
        rw [L_SW_stream_40, wt_21_0, hs.1 1 (by omega), s8, if_pos (nI_le (Nat.le_refl _) (by omega))]
      · show L_RM_write_420 56 x (g + 1) (nI c) t = _
        rw [L_RM_write_420, hs.2.1.2 5 (by omega), r5, if_pos (nI_le (Nat.le_refl _) (by omega))]
    · rintro j s t hj ⟨n2, hn2, hs, hk2⟩
      left
      have hW : h * (384 + 21) ≤ 12 * (384 + 21) := Nat.mul_le_mul_right _ d4
      obtain ⟨a, d, ea, ed, n3, hn3, h9, hk3⟩ := w_scan (lo := j) (cn := 1) (W := 384) (tn := 0) (hs.pic P) d6 hne (by rw [hs.2.1.2 54 (by omega), e54]) (by rw [hs.2.1.2 55 (by omega), e55]) hs.2.2 hk2.1 hk2.2 ⟨0, by decide, rfl⟩ (by omega) (fun z => absurd z (by decide)) (by omega) d2 d3 d4 (by omega)
      refine ⟨a, d, fun f => ?_, fun f => ?_, n3, by omega, hs.trans h9, hk3⟩
      · show L_SW_stream_40 21 (nI 0) (nI ne) (f + 1) (nI j) s = _
        rw [L_SW_stream_40, wt_21_0, hs.1 1 (by omega), s8, if_neg (nI_ge hj (by omega)), show (1 : Int32) = nI 1 from rfl, ea, Option.bind_some, show nI j + nI 1 = nI (j + 1) from nI_1 j]
      · show L_RM_write_420 56 x (f + 1) (nI j) t = _
        rw [L_RM_write_420, hs.2.1.2 5 (by omega), r5, if_neg (nI_ge hj (by omega)), show nI j + 1 = nI (j + 1) from nI_1 j, ed, Option.bind_some]
  · rw [if_neg (nI_ne0 (by omega) (by omega)), if_neg (nI_ne0 (by omega) (by omega))]
    by_cases h1 : c = 1
    · subst h1
      rw [if_pos (show nI 1 = 1 from rfl), if_pos (show nI 1 = 1 from rfl)]
      have hW : h * (384 + 21) ≤ 12 * (384 + 21) := Nat.mul_le_mul_right _ d4
      obtain ⟨a, d, ea, ed, n3, hn3, h9, hk3⟩ := w_scan (lo := 0) (cn := 1) (W := 384) (tn := 0) P d6 hne e54 e55 hS hk.1 hk.2 ⟨0, by decide, rfl⟩ (by omega) (fun z => absurd z (by decide)) (by omega) d2 d3 d4 (by omega)
      refine ⟨a, d, ea, ?_, n3, by omega, h9, hk3⟩
      have e1 : L_RM_write_420 56 x 9999 0 τ = some (nI 1, d) := by
        rw [L_RM_write_420, r5, if_neg (by decide), show (0 : Int32) + 1 = nI (0 + 1) from by decide, show f_RM_scan 56 0 (nI (0 + 1)) 0 τ = some d from ed, Option.bind_some, L_RM_write_420, h9.2.1.2 5 (by omega), r5, if_pos (by decide)]
      rw [e1, Option.bind_some]
    · have h1n : ¬ nI c = 1 := fun z => h1 (nI_inj (b := 1) (by omega) (by decide) z)
      rw [if_neg h1n, if_neg h1n]
      have hW : h * (1536 + 21) ≤ 12 * (1536 + 21) := Nat.mul_le_mul_right _ d4
      have hb := w_scan (lo := 0) (cn := c) (W := 1536) (tn := nI t) P d6 hne e54 e55 hS hk.1 hk.2 (byt_n (by omega)) (by omega) (fun _ => Nat.le_refl _) (by omega) d2 d3 d4 (by omega)
      rw [show 0 + c = c by omega] at hb
      exact hb.mono (fun a d ⟨n3, hn3, h9, hk3⟩ => ⟨n3, by omega, h9, hk3⟩)
set_option maxRecDepth 100000 in
set_option maxHeartbeats 4000000 in
theorem w_stream {σ τ : Mem} {w h b c nn rs st rt ne t : Nat} (P : RPic σ τ w h b c nn rs st rt) (hd : 1 ≤ w ∧ w ≤ 12 ∧ 1 ≤ h ∧ h ≤ 12 ∧ 2 ≤ b ∧ b ≤ 8 ∧ 1 ≤ c ∧ c ≤ 4) (hne : ne ≤ 3) (e54 : τ 56 54 = nI ne) (e55 : τ 56 55 = nI (2 ^ b - 1)) (e0 : τ 56 0 = nI t) (ht : t ≤ 2) (hS : RSt (mput σ 17 1 0) τ 0) (hk : SK σ) :
    Both (f_SW_stream 21 (nI t) (nI ne) σ) (R_str (nI ne) τ) (fun a d => ∃ n, WS 0 (mput σ 17 1 0) τ a d n ∧ SK a) := by
  have P0 : RPic (mput σ 17 1 0) τ w h b c nn rs st rt := P.congr (fun k _ _ => mput_cell (by omega)) (fun _ _ _ => rfl) (fun _ _ _ => rfl)
  have hk0 : SK (mput σ 17 1 0) := by
    unfold SK
    rw [mput_cell (by decide)]
    exact hk
  have eC : f_SW_stream 21 (nI t) (nI ne) σ = lt (f_SW_mark 21 216 (mput σ 17 1 0)) fun s2 => (f_SW_addNotes 21 s2).bind fun s4 => (f_SW_addFrame 21 s4).bind fun s6 => lt (f_SW_addPresets 21 s6) fun s7 => (f_SW_addTables 21 s7).bind fun s9 => lt (f_SW_addRestarts 21 s9) fun s10 => (if nI t = 0 then (L_SW_stream_40 21 (nI t) (nI ne) 9999 0 s10).bind fun q => some q.2 else f_SW_scan 21 0 (s10 1 8) (nI ne) (if s10 1 8 = 1 then 0 else nI t) s10).bind fun s28 => lt (f_SW_mark 21 217 s28) fun s31 => some s31 := by
    rw [f_SW_stream, wt_21_0, wt_21_1, f_BY_clear]
    simp only [lt_eq]
    by_cases z : nI t = 0
    · simp only [z, if_true, Option.bind_assoc, Option.bind_some]
    · simp only [z, if_false]
  rw [eC]
  unfold R_str
  rw [Option.bind_assoc]
  refine b_mark (fz := 1) (WS.refl hS) (by omega) ⟨216, by decide, rfl⟩ (fun a1 b1 h1 => ?_)
  refine both_bind (w_notes P0 h1 (by omega)) (fun a2 b2 h2 => ?_)
  obtain ⟨m2, l2, h2⟩ := h2
  refine both_bind (w_frame P0 (by omega) h2 (by omega)) (fun a3 b3 h3 => ?_)
  obtain ⟨m3, l3, h3⟩ := h3
  refine both_lt (w_presets P0 h3 (by omega)) (fun a4 b4 h4 => ?_)
  obtain ⟨m4, l4, h4⟩ := h4
  refine both_bind (w_tables P0 e55 (by omega) (by omega) h4 (by omega)) (fun a5 b5 h5 => ?_)
  obtain ⟨m5, l5, h5⟩ := h5
  refine both_lt (w_restarts P0 h5 (by omega)) (fun a6 b6 h6 => ?_)
  obtain ⟨m6, l6, h6⟩ := h6
  have hk6 : SK a6 := by
    unfold SK
    rw [h6.1 29 (by omega)]
    exact hk0
  refine both_bind (w_scans (t := t) (h6.pic P0) (by omega) hd hne (by rw [h6.2.1.2 54 (by omega), e54]) (by rw [h6.2.1.2 55 (by omega), e55]) (by rw [h6.2.1.2 0 (by omega), e0]) ht h6.2.2 hk6 (by omega)) (fun a7 b7 h7 => ?_)
  obtain ⟨m7, l7, h7, hk7⟩ := h7
  have h8 := h6.trans h7
  have i1 := h8.lay (by omega) byt_255
  have i2 := i1.lay (x := 217) (by omega) ⟨217, by decide, rfl⟩
  refine ⟨_, _, rfl, by rw [rm_lay h8.2.2.2.1 (by omega), Option.bind_some, rm_lay i1.2.2.2.1 (by omega)], m7 + 1 + 1, ?_, ?_⟩
  · rw [f_SW_mark, wt_21_1, lt_eq, lt_eq, w_add h8.2.2.1 (by omega), w_add i1.2.2.1 (by omega)]
    exact i2
  · rw [f_SW_mark, wt_21_1, lt_eq, lt_eq, w_add h8.2.2.1 (by omega), w_add i1.2.2.1 (by omega)]
    unfold SK at hk7 ⊢
    simp only [mput_cell, Nat.reduceEqDiff, not_false_eq_true]
    exact hk7
set_option maxRecDepth 100000 in
set_option maxHeartbeats 4000000 in
theorem o_write : O_write Inv := by
  intro σ p1 hI
  refine owed_of4 hI (fun τ H => ?_)
  obtain ⟨⟨t, t1, t2, t3⟩, ⟨w, h, b, c, nn, rs, st, rt, hPic⟩, ⟨n, w1, w2, w3, w4, w5, w6, w7⟩, ⟨m, hC⟩, hR⟩ := id H
  obtain ⟨⟨s1, s2, s3, s4⟩, ⟨r1, r2, r3, r4⟩, hn, hd, hrest⟩ := id hPic
  by_cases hc : c = 0
  · subst hc
    refine ⟨(.inr 1, σ), ?_, fin_thr (n := 1) (k := 1) H rfl ?_ (by decide) (by decide)⟩
    · rw [f_LF_write, f_LF_wantPicture, wt_0_1, s4, if_pos (show nI 0 = 0 from rfl)]
      rfl
    · rw [f_RM_write, r4, if_pos (show nI 0 = 0 from rfl), lt_eq, mput_same, if_neg (by decide)]
  have hc0 : ¬ nI c = 0 := nI_c0 hc (by omega)
  have hd2 : 1 ≤ w ∧ w ≤ 12 ∧ 1 ≤ h ∧ h ≤ 12 ∧ 2 ≤ b ∧ b ≤ 8 ∧ 1 ≤ c ∧ c ≤ 4 := by omega
  by_cases b3 : p1 < 0 ∨ ¬ p1 ≤ 3
  · refine ⟨(.inr 3, σ), ?_, fin_thr (n := 3) (k := 2) H rfl ?_ (by decide) (by decide)⟩
    · rw [f_LF_write, f_LF_wantPicture, wt_0_1, s4, if_neg hc0]
      show (if p1 < 0 then _ else _) = _
      by_cases z : p1 < 0
      · rw [if_pos z]
      · rw [if_neg z, if_neg (b3.resolve_left z)]
    · have e3 : f_RM_isIn p1 (0 : Int32) (3 : Int32) τ = 0 := by
        rw [isIn_1]
        by_cases z : p1 < 0
        · rw [if_pos z]
        · rw [if_neg z, if_pos (Int32.not_le.mp (b3.resolve_left z))]
      rw [f_RM_write, r4, if_neg hc0, e3, if_pos rfl, lt_eq, mput_same, if_neg (by decide)]
  have z1 : ¬ p1 < 0 := fun z => b3 (Or.inl z)
  have z2 : p1 ≤ 3 := Classical.not_not.mp (fun z => b3 (Or.inr z))
  obtain ⟨ne, hne, rfl⟩ := i32_of (n := 3) z1 z2 (by decide)
  have e3 : f_RM_isIn (nI ne) (0 : Int32) (3 : Int32) τ = 1 := by
    rw [isIn_1, if_neg z1, if_neg (Int32.not_lt.mpr z2)]
  have top : f_RM_topOf (τ 56 4) τ = nI (2 ^ b - 1) := by
    rw [f_RM_topOf, r3, top_nI (by omega)]
  have P1 : RPic σ (mput (mput (mput (mput τ 56 1 0) 56 54 (nI ne)) 56 55 (nI (2 ^ b - 1))) 56 17 0) w h b c nn rs st rt := hPic.congr (fun _ _ _ => rfl) (fun j h1 h2 => by rw [mput_slot (by omega), mput_slot (by omega), mput_slot (by omega), mput_slot (by omega)]) (fun k h1 h2 => by simp only [mput_cell (show ¬ k = 56 by omega)])
  obtain ⟨A, D, eA, eD, n2, h9, hk9⟩ := w_stream (t := t) (ne := ne) P1 hd2 hne (by simp only [mput_slot, mput_same, Nat.reduceEqDiff, not_false_eq_true]) (by simp only [mput_slot, mput_same, Nat.reduceEqDiff, not_false_eq_true]) (by simp only [mput_slot, mput_same, Nat.reduceEqDiff, not_false_eq_true, t2]) t3 (by
    unfold RSt
    simp only [mput_slot, mput_same, mput_cell, Nat.reduceEqDiff, not_false_eq_true]
    exact ⟨rfl, rfl, by omega, w4, w5⟩) ⟨w6, w7⟩
  have hD1 : D 56 1 = 0 := by
    rw [h9.2.1.2 1 (by omega)]
    simp only [mput_slot, mput_same, Nat.reduceEqDiff, not_false_eq_true]
  refine ⟨(.inl (nI n2), A), ?_, fin_ok rfl (τ1 := D) ?_ ?_ ?_ ?_ hD1⟩
  · rw [f_LF_write, f_LF_wantPicture, wt_0_1, s4, if_neg hc0]
    show (if nI ne < 0 then _ else _) = _
    rw [if_neg z1, if_pos z2, wt_0_4, wt_0_2, t1, eA, Option.bind_some, f_BY_size, h9.2.2.1]
  · rw [rm_write (by rw [r4]; exact hc0) e3, top, eD, Option.bind_some, h9.2.2.2.1]
  · intro k hk
    rw [h9.1 k (by omega), mput_cell (by omega)]
  · intro k hk
    rw [h9.2.1.1 k (by omega)]
    simp only [mput_cell (show ¬ k = 56 by omega)]
  · have f1 : ∀ k, ¬ (k = 17 ∨ k = 18 ∨ k = 22 ∨ k = 24 ∨ k = 26 ∨ k = 28 ∨ k = 29) → A k = σ k := fun k hk => by rw [h9.1 k (by omega), mput_cell (by omega)]
    have f2 : ∀ k, ¬ (k = 56 ∨ k = 63 ∨ k = 79 ∨ k = 80 ∨ k = 81) → D k = τ k := fun k hk => by rw [h9.2.1.1 k hk]; simp only [mput_cell (show ¬ k = 56 by omega)]
    have f3 : ∀ j, ¬ (j = 1 ∨ j = 17 ∨ (54 ≤ j ∧ j ≤ 59)) → D 56 j = τ 56 j := fun j hj => by rw [h9.2.1.2 j (by omega), mput_slot (by omega), mput_slot (by omega), mput_slot (by omega), mput_slot (by omega)]
    refine ⟨⟨t, RTu.congr (f1 0 (by omega)) (f3 0 (by omega)) ⟨t1, t2, t3⟩⟩, ⟨w, h, b, c, nn, rs, st, rt, hPic.congr (fun k _ _ => f1 k (by omega)) (fun j _ _ => f3 j (by omega)) (fun k _ _ => f2 k (by omega))⟩, ⟨n2, h9.2.2.1, h9.2.2.2.1, h9.2.2.2.2.1, h9.2.2.2.2.2.1, h9.2.2.2.2.2.2, hk9.1, hk9.2⟩, ⟨m, hC.congr (f1 19 (by omega)) (f1 20 (by omega)) (f3 19 (by omega)) (f2 64 (by omega))⟩, hR.congr (fun k _ _ => f1 k (by omega)) (fun j _ _ => f3 j (by omega)) (fun k _ _ => f2 k (by omega))⟩
