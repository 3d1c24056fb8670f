/-! writing: the rows of a scan, with restarts -/
set_option maxRecDepth 100000 in
set_option maxHeartbeats 4000000 in
theorem WB.congr {σ τ σ1 τ1 : Mem} {cur u m : Nat} (h1 : σ1 29 = σ 29) (h2 : τ1 56 57 = τ 56 57) (h3 : τ1 56 58 = τ 56 58) (h4 : τ1 56 59 = τ 56 59) (H : WB σ τ cur u m) : WB σ1 τ1 cur u m := by
  unfold WB at H ⊢
  rw [h1, h2, h3, h4]
  exact H
set_option maxRecDepth 100000 in
set_option maxHeartbeats 4000000 in
theorem WX0.wx {σ0 τ0 σ τ : Mem} {ne tp rs st fr n B : Nat} {T : Nat → Nat → Nat → Prop} {E : (Nat → Int32) → (Nat → Int32) → (Nat → Int32) → (Nat → Int32) → Prop} (H : WX0 σ0 τ0 σ τ ne tp rs st fr T E n) (h : 7 * n ≤ B) : WX σ0 τ0 σ τ ne tp rs st fr T E B := ⟨n, 0, 0, 8, by omega, H.1, H.2.1, H.2.2⟩
set_option maxRecDepth 100000 in
set_option maxHeartbeats 4000000 in
theorem WX0.lay {σ0 τ0 σ τ : Mem} {ne tp rs st fr n : Nat} {x : Int32} {T : Nat → Nat → Nat → Prop} {E : (Nat → Int32) → (Nat → Int32) → (Nat → Int32) → (Nat → Int32) → Prop} (H : WX0 σ0 τ0 σ τ ne tp rs st fr T E n) (hn : n < 6000) (hx : byt x) : WX0 σ0 τ0 (mput (mput σ 18 n x) 17 1 (nI (n + 1))) (mput (mput τ 63 n x) 56 17 (nI (n + 1))) ne tp rs st fr T E (n + 1) := by
  refine ⟨H.1.lay hn hx, ?_, ?_⟩
  · refine H.2.1.congr ?_ ?_ ?_ ?_
    all_goals simp only [mput_slot, mput_cell, Nat.reduceEqDiff, not_false_eq_true]
  · refine H.2.2.congr ?_ ?_ ?_ ?_ ?_ ?_ ?_ ?_
    all_goals simp only [mput_slot, mput_cell, Nat.reduceEqDiff, not_false_eq_true]
set_option maxRecDepth 100000 in
set_option maxHeartbeats 4000000 in
theorem w_mark0 {σ0 τ0 σ τ : Mem} {ne tp rs st fr n : Nat} {x : Int32} {T : Nat → Nat → Nat → Prop} {E : (Nat → Int32) → (Nat → Int32) → (Nat → Int32) → (Nat → Int32) → Prop} (H : WX0 σ0 τ0 σ τ ne tp rs st fr T E n) (hn : n + 2 ≤ 6000) (hx : byt x) : ∃ τ1, ((f_RM_lay 56 255 τ).bind fun t => f_RM_lay 56 x t) = some τ1 ∧ WX0 σ0 τ0 (f_SW_mark 21 x σ) τ1 ne tp rs st fr T E (n + 2) := by
  have h1 := H.lay (by omega) byt_255
  have h2 := h1.lay (by omega) hx
  refine ⟨_, by rw [rm_lay H.1.2.2.2.1 (by omega), Option.bind_some, rm_lay h1.1.2.2.2.1 (by omega)], ?_⟩
  rw [f_SW_mark, wt_21_1, lt_eq, lt_eq, w_add H.1.2.2.1 (by omega), w_add h1.1.2.2.1 (by omega)]
  exact h2
set_option maxRecDepth 100000 in
set_option maxHeartbeats 4000000 in
theorem w_renew0 {σ0 τ0 σ τ : Mem} {ne tp rs st fr n f : Nat} {T T1 : Nat → Nat → Nat → Prop} {E : (Nat → Int32) → (Nat → Int32) → (Nat → Int32) → (Nat → Int32) → Prop} (H : WX0 σ0 τ0 σ τ ne tp rs st fr T E n) (hT : ∀ c x y, T1 c x y → T c x y) : ∃ σ1 τ1, f_MD_renew 22 σ = some σ1 ∧ f_RM_begin 56 (nI f) (nI st) τ = some τ1 ∧ WX0 σ0 τ0 σ1 τ1 ne tp rs st f T1 Eeq n := by
  obtain ⟨hs, hw, hm, hf, hE, hTT⟩ := H
  refine ⟨_, _, m_renew (k0 := 22) wt_22_1 wt_25_0 wl_26 wt_22_2 wt_27_0 wl_28, rm_begin, ⟨?_, ?_, ?_⟩, ?_, ?_⟩
  · intro k hk
    rw [fillr_cell (by omega), fillr_cell (by omega), hs.1 k hk]
  · exact ⟨fun k hk => by rw [fillr_cell (by omega), fillr_cell (by omega), mput_cell (by omega), hs.2.1.1 k hk], fun j hj => by rw [fillr_cell (by decide), fillr_cell (by decide), mput_slot (by omega), hs.2.1.2 j hj]⟩
  · have h1 := hs.2.2
    unfold RSt at h1 ⊢
    simp only [fillr_cell, mput_slot, mput_cell, Nat.reduceEqDiff, not_false_eq_true]
    exact h1
  · refine hw.congr ?_ ?_ ?_ ?_
    all_goals simp only [fillr_cell, mput_slot, mput_cell, Nat.reduceEqDiff, not_false_eq_true]
  · unfold WM
    simp only [fillr_cell, fillr_row, mput_slot, mput_same, mput_cell, Nat.reduceEqDiff, not_false_eq_true]
    refine ⟨hm, trivial, ?_, fun c x y h1 => hTT c x y (hT c x y h1)⟩
    intro k hk
    simp [hk, hm.2.2.2.2.2]
/-- where the rows since the last restart began -/
def frOk (rt fr y : Nat) : Prop := fr ≤ y ∧ (rt = 0 → fr = 0) ∧ (0 < rt → fr % rt = 0 ∧ y - fr < rt)
set_option maxRecDepth 100000 in
set_option maxHeartbeats 4000000 in
theorem frOk_cases {rt fr y : Nat} (h : frOk rt fr y) (hr : 0 < rt) : (y + 1 - fr = rt ↔ (y + 1) % rt = 0) ∧ (y + 1 - fr = rt → frOk rt (y + 1) (y + 1)) ∧ (¬ y + 1 - fr = rt → frOk rt fr (y + 1)) := by
  obtain ⟨h1, h2, h3⟩ := h
  obtain ⟨h4, h5⟩ := h3 hr
  have e1 : (y + 1) % rt = (y + 1 - fr) % rt := by
    have : y + 1 = fr + (y + 1 - fr) := by omega
    rw [this, Nat.add_mod, h4, Nat.zero_add, Nat.mod_mod, show fr + (y + 1 - fr) - fr = y + 1 - fr by omega]
  by_cases z : y + 1 - fr = rt
  · have e2 : (y + 1) % rt = 0 := by rw [e1, z, Nat.mod_self]
    exact ⟨⟨fun _ => e2, fun _ => z⟩, fun _ => ⟨by omega, by omega, fun _ => ⟨e2, by omega⟩⟩, fun w => absurd z w⟩
  · have e2 : (y + 1 - fr) % rt = y + 1 - fr := Nat.mod_eq_of_lt (by omega)
    refine ⟨⟨fun w => absurd w z, fun w => ?_⟩, fun w => absurd w z, fun _ => ⟨by omega, by omega, fun _ => ⟨h4, by omega⟩⟩⟩
    rw [e1, e2] at w
    omega
set_option maxRecDepth 100000 in
set_option maxHeartbeats 4000000 in
theorem w_between {σ0 τ0 σ τ : Mem} {w h b cc nn rs st rt ne tp fr B lo cn y a : Nat} (P : RPic σ0 τ0 w h b cc nn rs st rt) (hh : h ≤ 12) (hfr : frOk rt fr y) (ha : a ≤ y) (hy : y + 1 < h) (H : WX σ0 τ0 σ τ ne tp rs st fr (TR lo cn w fr (y + 1)) Eeq B) (hB : B + 21 ≤ 42000) :
    Both (C_beg (nI rt) (nI a) (nI (y + 1 - fr)) σ) (R_end (nI a) (nI y) τ) (fun A D => ∃ a2 fr2, A.1 = nI a2 ∧ D.1 = nI a2 ∧ A.2.1 = nI (y + 1 - fr2) ∧ frOk rt fr2 (y + 1) ∧ a2 ≤ y + 1 ∧ WX σ0 τ0 A.2.2 D.2 ne tp rs st fr2 (TR lo cn w fr2 (y + 1)) Eeq (B + 21)) := by
  obtain ⟨-, ⟨r1, r2, r3, r4⟩, -, -, -, -, -, ⟨q1, q2, q3, q4, q5, q6, q7, q8, q9⟩, -⟩ := id P
  obtain ⟨t3, t11⟩ : τ 56 3 = nI h ∧ τ 56 11 = nI rt := by
    obtain ⟨n, cur, u, m, hb, hss, -⟩ := H
    exact ⟨by rw [hss.2.1.2 3 (by omega), r2], by rw [hss.2.1.2 11 (by omega), q6]⟩
  unfold C_beg R_end
  rw [t3, t11, show nI y + 1 = nI (y + 1) from nI_1 y]
  by_cases hr : rt = 0
  · subst hr
    rw [if_pos (show nI 0 = 0 from rfl), if_pos (show nI 0 ≤ 0 by decide)]
    refine both_ret ⟨a, fr, rfl, rfl, rfl, ?_, by omega, H.monoT (fun _ _ _ z => z) (by omega)⟩
    exact ⟨by have := hfr.1; omega, fun _ => hfr.2.1 rfl, fun z => absurd z (by decide)⟩
  · obtain ⟨f1, f2, f3⟩ := frOk_cases hfr (show 0 < rt by omega)
    have hf0 := hfr.1
    rw [if_neg (nI_ne0 (by omega) (by omega)), if_neg (show ¬ nI rt ≤ 0 from nI_ge (a := 0) (b := rt) (by omega) (by omega)), nI_mod (by omega) (by omega)]
    by_cases z : y + 1 - fr = rt
    · have z2 := f1.mp z
      rw [if_pos (by rw [z]), z2, if_pos (show nI 0 = 0 from rfl), if_neg (nI_ge hy (by omega))]
      obtain ⟨A, D, eA, eD, n, hn, h0⟩ := w_close H (by omega)
      have e8 : byt (208 + (nI a - nI a / 8 * 8)) := by
        rw [show (8 : Int32) = nI 8 from rfl, nI_mod (by omega) (by decide), show (208 : Int32) = nI 208 from rfl, nI_add]
        exact byt_n (by have := Nat.mod_lt a (show 0 < 8 by decide); omega)
      obtain ⟨t1, et, h1⟩ := w_mark0 h0 (by omega) e8
      obtain ⟨s2, t2, es2, et2, h2⟩ := w_renew0 (f := y + 1) (T1 := TR lo cn w (y + 1) (y + 1)) h1 (fun c x y1 z3 => by unfold TR at z3; omega)
      have eA2 : f_BK_close 29 σ = A := Option.some.inj eA
      refine ⟨(nI a + 1, 0, s2), (nI a + 1, t2), ?_, ?_, a + 1, y + 1, by rw [nI_1], by rw [nI_1], by rw [Nat.sub_self]; rfl, f2 z, by omega, h2.wx (by omega)⟩
      · rw [eA2, es2, Option.bind_some]
      · rw [eD, Option.bind_some, ← Option.bind_assoc, et, Option.bind_some, h1.1.2.1.2 10 (by omega), q5, et2, Option.bind_some]
    · have z2 : ¬ (y + 1) % rt = 0 := fun z3 => z (f1.mpr z3)
      have hm : (y + 1) % rt < rt := Nat.mod_lt _ (by omega)
      rw [if_neg (fun z3 => z (nI_inj (by omega) (by omega) z3)), if_neg (nI_ne0 (by omega) (by omega))]
      exact both_ret ⟨a, fr, rfl, rfl, rfl, f3 z, by omega, H.monoT (fun _ _ _ z => z) (by omega)⟩
set_option maxRecDepth 100000 in
set_option maxHeartbeats 4000000 in
theorem w_rows {σ0 τ0 : Mem} {w h b cc nn rs st rt ne tp lo cn W : Nat} {b3 tn : Int32} (P : RPic σ0 τ0 w h b cc nn rs st rt) (e54 : τ0 56 54 = nI ne) (e55 : τ0 56 55 = nI tp) (hne : ne ≤ 3) (htp : tp ≤ 255) (hW1 : 384 * cn ≤ W) (hW2 : tn = 2 → 1536 ≤ W) (hc : lo + cn ≤ 4) (hw : w ≤ 12) (hh : h ≤ 12) :
    ∀ (d y fr a B n m : Nat) (σ τ : Mem), y + d + 1 = h → frOk rt fr y → a ≤ y → WX σ0 τ0 σ τ ne tp rs st fr (TR lo cn w fr y) Eeq B → B + (d + 1) * (W + 21) + 40 ≤ 42000 → d < n → d + 1 < m →
    Both ((f_SW_addRow 21 (nI lo) (nI cn) tn (nI y) (if nI (y - fr) = 0 then 1 else 0) σ).bind fun s => L_SW_scan_43 21 (nI lo) (nI cn) b3 tn (nI rt) n (nI a) (nI (y - fr) + 1) (nI y + 1) s) (L_RM_data_31 56 (nI lo) (nI (lo + cn)) tn m (nI a) (nI y) τ) (fun A D => ∃ fr2 T, WX σ0 τ0 A.2.2.2 D.2.2 ne tp rs st fr2 T Eeq (B + (d + 1) * (W + 21))) := by
  have s6 : σ0 1 6 = nI h := P.1.2.1
  have r3 : τ0 56 3 = nI h := P.2.1.2.1
  intro d
  induction d with
  | zero =>
    intro y fr a B n m σ τ h1 h2 h3 H h4 h5 h6
    obtain ⟨n, rfl⟩ := Nat.exists_eq_succ_of_ne_zero (show n ≠ 0 by omega)
    obtain ⟨m, rfl⟩ := Nat.exists_eq_succ_of_ne_zero (show m ≠ 0 by omega)
    obtain ⟨m, rfl⟩ := Nat.exists_eq_succ_of_ne_zero (show m ≠ 0 by omega)
    have hf0 := h2.1
    have hq : (if nI (y - fr) = 0 then (1 : Int32) else 0) = if y = fr then 1 else 0 := by
      by_cases z : y = fr
      · rw [if_pos z, z, Nat.sub_self, if_pos (show nI 0 = 0 from rfl)]
      · rw [if_neg z, if_neg (nI_ne0 (by omega) (by omega))]
    have t3 : τ 56 3 = nI h := by
      obtain ⟨n, cur, u, m, hb, hss, -⟩ := H
      rw [hss.2.1.2 3 (by omega), r3]
    rw [data_step (by rw [t3]; exact nI_ge (by omega) (by omega))]
    refine both_bind (w_row (a4 := nI a) P e54 e55 hne htp hq H (by omega) hW1 hW2 hc hw (by omega) hf0) (fun s t H1 => ?_)
    obtain ⟨n1, cur, u, m1, hb, hss, -⟩ := id H1
    have eE : R_end (nI a) (nI y) t = some (nI a, t) := by
      unfold R_end
      rw [hss.2.1.2 3 (by omega), r3, nI_1, if_pos (nI_le (show h ≤ y + 1 by omega) (by omega))]
      split
      · rfl
      · split <;> rfl
    have eL : L_SW_scan_43 21 (nI lo) (nI cn) b3 tn (nI rt) (n + 1) (nI a) (nI (y - fr) + 1) (nI y + 1) s = some (nI a, nI (y - fr) + 1, nI y + 1, s) := by
      rw [L_SW_scan_43, wt_21_0, hss.1 1 (by omega), s6, show nI y + 1 = nI (y + 1) from nI_1 y, if_pos (nI_le (show h ≤ y + 1 by omega) (by omega))]
    have eD : L_RM_data_31 56 (nI lo) (nI (lo + cn)) tn (m + 1) (nI a) (nI y + 1) t = some (nI a, nI y + 1, t) := by
      rw [L_RM_data_31, hss.2.1.2 3 (by omega), r3, show nI y + 1 = nI (y + 1) from nI_1 y, if_pos (nI_le (show h ≤ y + 1 by omega) (by omega))]
    rw [eE, Option.bind_some]
    exact ⟨_, _, eL, eD, fr, _, H1.monoT (fun _ _ _ z => z) (by omega)⟩
  | succ d ih =>
    intro y fr a B n m σ τ h1 h2 h3 H h4 h5 h6
    obtain ⟨n, rfl⟩ := Nat.exists_eq_succ_of_ne_zero (show n ≠ 0 by omega)
    obtain ⟨m, rfl⟩ := Nat.exists_eq_succ_of_ne_zero (show m ≠ 0 by omega)
    have hm : (d + 1 + 1) * (W + 21) = (d + 1) * (W + 21) + (W + 21) := Nat.succ_mul _ _
    have hf0 := h2.1
    have hq : (if nI (y - fr) = 0 then (1 : Int32) else 0) = if y = fr then 1 else 0 := by
      by_cases z : y = fr
      · rw [if_pos z, z, Nat.sub_self, if_pos (show nI 0 = 0 from rfl)]
      · rw [if_neg z, if_neg (nI_ne0 (by omega) (by omega))]
    have t3 : τ 56 3 = nI h := by
      obtain ⟨n, cur, u, m, hb, hss, -⟩ := H
      rw [hss.2.1.2 3 (by omega), r3]
    rw [data_step (by rw [t3]; exact nI_ge (by omega) (by omega))]
    refine both_bind (w_row (a4 := nI a) P e54 e55 hne htp hq H (by omega) hW1 hW2 hc hw (by omega) hf0) (fun s t H1 => ?_)
    obtain ⟨n1, cur, u, m1, hb, hss, -⟩ := id H1
    rw [scan_step (by rw [hss.1 1 (by omega), s6, nI_1]; exact nI_ge (by omega) (by omega)), show nI (y - fr) + 1 = nI (y + 1 - fr) by rw [nI_1]; congr 1; omega, show nI y + 1 = nI (y + 1) from nI_1 y]
    refine both_bind (w_between P hh h2 h3 (by omega) H1 (by omega)) (fun A D H2 => ?_)
    obtain ⟨a2, fr2, k1, k2, k3, k4, k5, H3⟩ := H2
    rw [k1, k2, k3]
    exact (ih (y + 1) fr2 a2 (B + W + 21) n m A.2.2 D.2 (by omega) k4 k5 H3 (by omega) (by omega) (by omega)).mono (fun _ _ ⟨fr3, T, H4⟩ => ⟨fr3, T, H4.monoT (fun _ _ _ z => z) (by omega)⟩)
