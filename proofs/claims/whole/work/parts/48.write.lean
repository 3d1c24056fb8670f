/-! writing: a scan whole, the stream -/
set_option maxRecDepth 100000 in
set_option maxHeartbeats 4000000 in
theorem WS.refl {fz : Nat} {σ τ : Mem} {n : Nat} (h : RSt σ τ n) : WS fz σ τ σ τ n := ⟨fun _ _ => rfl, ⟨fun _ _ => rfl, fun _ _ => rfl⟩, h⟩
set_option maxRecDepth 100000 in
set_option maxHeartbeats 4000000 in
theorem WS.trans {fz : Nat} {σ0 τ0 σ τ σ1 τ1 : Mem} {n m : Nat} (h : WS fz σ0 τ0 σ τ n) (k : WS 0 σ τ σ1 τ1 m) : WS 0 σ0 τ0 σ1 τ1 m :=
  ⟨fun i hi => by rw [k.1 i hi, h.1 i (by omega)], ⟨fun i hi => by rw [k.2.1.1 i hi, h.2.1.1 i hi], fun j hj => by rw [k.2.1.2 j hj, h.2.1.2 j hj]⟩, k.2.2⟩
set_option maxRecDepth 100000 in
set_option maxHeartbeats 4000000 in
theorem w_scanBegin {σ τ s t : Mem} {w h b cc nn rs st rt ne m lo cn : Nat} (P : RPic σ τ w h b cc nn rs st rt) (hb : b ≤ 8) (hne : ne ≤ 3) (e54 : τ 56 54 = nI ne) (H : WS 1 σ τ s t m) (k1 : σ 29 1 = 0) (k2 : σ 29 2 = 8) :
    ∃ s1 t1, f_MD_begin 22 1 (nI ne) s = some s1 ∧ f_RM_begin 56 0 (nI st) (mput (mput (mput t 56 57 0) 56 58 0) 56 59 8) = some t1 ∧ WX0 σ τ s1 t1 ne (2 ^ b - 1) rs st 0 (TR lo cn w 0 0) Eeq m := by
  have P2 := H.pic P
  obtain ⟨⟨p1, p2, p3, p4⟩, -, -, -, -, -, -, ⟨q1, q2, q3, q4, q5, q6, q7, q8, q9⟩, -⟩ := id P2
  have h29 : s 29 = σ 29 := H.1 29 (by omega)
  refine ⟨_, _, m_begin (k0 := 22) (k1 := 1) wt_22_1 wt_25_0 wl_26 wt_22_2 wt_27_0 wl_28 wt_1_1 wt_4_0 wl_5 p3 hb hne q1 q2 (by decide), rm_begin, ⟨?_, ?_, ?_⟩, ?_, ?_⟩
  · intro k hk
    rw [fillr_cell (by omega), fillr_cell (by omega)]
    simp only [mput_cell (show ¬ k = 22 by omega)]
    exact H.1 k (by omega)
  · refine ⟨fun k hk => ?_, fun j hj => ?_⟩
    · rw [fillr_cell (by omega), fillr_cell (by omega)]
      simp only [mput_cell (show ¬ k = 56 by omega)]
      exact H.2.1.1 k hk
    · rw [fillr_cell (by decide), fillr_cell (by decide), mput_slot (by omega), mput_slot (by omega), mput_slot (by omega), mput_slot (by omega)]
      exact H.2.1.2 j hj
  · have h1 := H.2.2
    unfold RSt at h1 ⊢
    simp only [fillr_cell, mput_slot, mput_cell, Nat.reduceEqDiff, not_false_eq_true]
    exact h1
  · refine ⟨⟨?_, ?_⟩, ⟨?_, ?_, ?_⟩, by decide, by decide, by decide⟩
    · simp only [fillr_cell, mput_slot, mput_cell, Nat.reduceEqDiff, not_false_eq_true, h29, k1]
      rfl
    · simp only [fillr_cell, mput_slot, mput_cell, Nat.reduceEqDiff, not_false_eq_true, h29, k2]
      rfl
    · simp only [fillr_cell, mput_same, mput_slot, mput_cell, Nat.reduceEqDiff, not_false_eq_true]
      rfl
    · simp only [fillr_cell, mput_same, mput_slot, mput_cell, Nat.reduceEqDiff, not_false_eq_true]
      rfl
    · simp only [fillr_cell, mput_same, mput_slot, mput_cell, Nat.reduceEqDiff, not_false_eq_true]
      rfl
  · refine ⟨⟨?_, ?_, ?_, ?_, ?_, ?_⟩, ?_, ?_, ?_⟩
    · simp only [fillr_cell, mput_same, mput_slot, mput_cell, Nat.reduceEqDiff, not_false_eq_true]
    · simp only [fillr_cell, mput_same, mput_slot, mput_cell, Nat.reduceEqDiff, not_false_eq_true]
    · simp only [fillr_cell, mput_same, mput_slot, mput_cell, Nat.reduceEqDiff, not_false_eq_true]
    · simp only [fillr_cell, mput_same, mput_slot, mput_cell, Nat.reduceEqDiff, not_false_eq_true]
    · simp only [fillr_cell, mput_same, mput_slot, mput_cell, Nat.reduceEqDiff, not_false_eq_true]
    · simp only [fillr_cell, mput_same, mput_slot, mput_cell, Nat.reduceEqDiff, not_false_eq_true]
    · simp only [fillr_cell, mput_same, mput_slot, mput_cell, Nat.reduceEqDiff, not_false_eq_true]
      rfl
    · intro k hk
      simp only [fillr_cell, fillr_row, mput_cell, Nat.reduceEqDiff, not_false_eq_true, hk, if_true]
      exact ⟨trivial, trivial⟩
    · intro c x y h1
      unfold TR at h1
      omega
set_option maxRecDepth 100000 in
set_option maxHeartbeats 4000000 in
theorem w_scan {σ τ : Mem} {w h b cc nn rs st rt ne n lo cn W : Nat} {tn : Int32} (P : RPic σ τ w h b cc nn rs st rt) (hb : b ≤ 8) (hne : ne ≤ 3) (e54 : τ 56 54 = nI ne) (e55 : τ 56 55 = nI (2 ^ b - 1)) (hS : RSt σ τ n) (k1 : σ 29 1 = 0) (k2 : σ 29 2 = 8) (htn : byt tn) (hW1 : 384 * cn ≤ W) (hW2 : tn = 2 → 1536 ≤ W) (hc : lo + cn ≤ 4) (hw : w ≤ 12) (hh0 : 1 ≤ h) (hh : h ≤ 12) (hn : 7 * (n + 8 + 2 * cn) + h * (W + 21) + 60 ≤ 42000) :
    Both (f_SW_scan 21 (nI lo) (nI cn) (nI ne) tn σ) (f_RM_scan 56 (nI lo) (nI (lo + cn)) tn τ) (fun a d => ∃ n2, 7 * n2 ≤ 7 * (n + 8 + 2 * cn) + h * (W + 21) + 7 ∧ WS 0 σ τ a d n2 ∧ a 29 1 = 0 ∧ a 29 2 = 8) := by
  have htp : 2 ^ b - 1 ≤ 255 := by have := pow_le hb; omega
  have eR : f_RM_scan 56 (nI lo) (nI (lo + cn)) tn τ = ((f_RM_mark 56 218 (6 + 2 * nI cn) τ).bind fun t1 => (f_RM_lay 56 (nI cn) t1).bind fun t2 => (L_RM_scan_25 56 (nI lo) (nI (lo + cn)) tn 9999 (nI lo) t2).bind fun q => (f_RM_lay 56 (q.2 56 54) q.2).bind fun t3 => (f_RM_lay 56 tn t3).bind fun t4 => f_RM_lay 56 0 t4).bind fun t => f_RM_data 56 (nI lo) (nI (lo + cn)) tn t := by
    rw [f_RM_scan, nI_sub (show lo ≤ lo + cn by omega), show lo + cn - lo = cn by omega]
    simp only [Option.bind_assoc, bind_id]
  rw [eR, f_SW_scan]
  refine both_bind (w_scanHead (fz := 1) (ne := ne) P hc e54 hne htn (WS.refl hS) (by omega)) (fun s t H1 => ?_)
  obtain ⟨m, hm, H1⟩ := H1
  obtain ⟨s1, t1, es, et, H2⟩ := w_scanBegin (lo := lo) (cn := cn) P hb hne e54 H1 k1 k2
  have P2 := H2.1.pic P
  obtain ⟨⟨p1, p2, p3, p4⟩, -, -, -, -, -, -, ⟨q1, q2, q3, q4, q5, q6, q7, q8, q9⟩, -⟩ := id P2
  have t10 : mput (mput (mput t 56 57 0) 56 58 0) 56 59 8 56 10 = nI st := by
    rw [mput_slot (by decide), mput_slot (by decide), mput_slot (by decide)]
    exact (H1.pic P).2.2.2.2.2.2.2.1.2.2.2.2.1
  rw [wt_21_0, wt_21_2, wt_21_3, es, Option.bind_some, wt_1_1, lt_eq, show f_RO_get 4 2 s1 = nI rt from by rw [show (2 : Int32) = nI 2 from rfl, ro_get (k := 4) (a := 5) (n := 3) wt_4_0 wl_5 (by omega) (by decide), q3]]
  rw [f_RM_data, lt_eq, lt_eq, lt_eq, t10, et, Option.bind_some]
  have c0 : C_beg (nI rt) 0 0 s1 = some (0, 0, s1) := by
    unfold C_beg
    by_cases z : nI rt = 0
    · rw [if_pos z]
    · rw [if_neg z, if_neg (fun z2 => z z2.symm)]
  have e9 : L_SW_scan_43 21 (nI lo) (nI cn) (nI ne) tn (nI rt) 9999 0 0 0 s1 = (f_SW_addRow 21 (nI lo) (nI cn) tn (nI 0) (if nI (0 - 0) = 0 then 1 else 0) s1).bind fun s => L_SW_scan_43 21 (nI lo) (nI cn) (nI ne) tn (nI rt) 9998 (nI 0) (nI (0 - 0) + 1) (nI 0 + 1) s := by
    rw [scan_step (n := 9998) (by rw [p2]; exact nI_ge (a := 0) (b := h) (by omega) (by omega)), c0, Option.bind_some]
    rfl
  rw [e9]
  have hd : h - 1 + 1 = h := by omega
  have h9 := w_rows (b3 := nI ne) (tn := tn) (lo := lo) (cn := cn) (W := W) P e54 e55 hne htp hW1 hW2 hc hw hh (h - 1) 0 0 0 (7 * (n + 8 + 2 * cn)) 9998 9999 s1 t1 (by omega) ⟨by omega, fun _ => rfl, fun z => ⟨Nat.zero_mod _, z⟩⟩ (by omega) (H2.wx (by omega)) (by rw [hd]; omega) (by omega) (by omega)
  rw [hd] at h9
  refine both_bind h9 (fun A D H3 => ?_)
  obtain ⟨fr2, T, H3⟩ := H3
  obtain ⟨A2, D2, eA, eD, n2, hn2, H4⟩ := w_close H3 (by omega)
  refine ⟨A2, D2, ?_, by rw [eD, Option.bind_some], n2, by omega, H4.1, H4.2.1.1.1, H4.2.1.1.2⟩
  rw [lt_eq]
  exact eA
