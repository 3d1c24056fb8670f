/-! writing: a scan -/
set_option maxRecDepth 100000 in
set_option maxHeartbeats 4000000 in
theorem rm_begin {τ : Mem} {x1 x2 : Int32} : f_RM_begin 56 x1 x2 τ = some (fillr (fillr (mput τ 56 56 x1) 80 4 x2) 81 4 1) := by
  obtain ⟨a, ea, h9⟩ := loopS (C := fun f k s => L_RM_begin_7 56 x1 x2 f (nI k) s) (P := fun k s => s = fillr (fillr (mput τ 56 56 x1) 80 k x2) 81 k 1) (Q := fun a => a.2 = fillr (fillr (mput τ 56 56 x1) 80 4 x2) 81 4 1) (hi := 4) (fun s hs n => ⟨(nI 4, s), by
      show L_RM_begin_7 56 x1 x2 (n + 1) (nI 4) s = _
      rw [L_RM_begin_7, if_pos (by decide)], hs⟩) (fun k s hk hs => Or.inl ⟨_, fun n => by
      show L_RM_begin_7 56 x1 x2 (n + 1) (nI k) s = L_RM_begin_7 56 x1 x2 n (nI (k + 1)) (mput (mput s 80 k x2) 81 k 1)
      rw [L_RM_begin_7, if_neg (show ¬ (4 : Int32) ≤ nI k from nI_ge (b := 4) hk (by decide))]
      simp only [lt_eq, wt_0_1, wt_0_2, wt_0_3, wt_0_4, wt_0_5, wt_1_0, wt_1_1, wt_1_2, wt_1_3, wt_1_4, wt_2_0, wl_3, wt_4_0, wl_5, wt_6_0, wl_7, wt_8_0, wl_9, wt_10_0, wt_10_1, wt_10_2, wt_11_0, wl_12, wt_13_0, wl_14, wt_15_0, wl_16, wt_17_0, wl_18, wt_19_0, wl_20, wt_21_0, wt_21_1, wt_21_2, wt_21_3, wt_22_0, wt_22_1, wt_22_2, wt_23_0, wl_24, wt_25_0, wl_26, wt_27_0, wl_28, wt_29_0, wt_30_0, wt_30_1, wt_30_2, wt_30_3, wt_30_4, wt_30_5, wt_31_0, wt_31_1, wt_31_2, wt_31_3, wt_31_4, wt_32_0, wl_33, wt_34_0, wl_35, wt_36_0, wl_37, wt_38_0, wl_39, wt_40_0, wt_40_1, wt_40_2, wt_41_0, wl_42, wt_43_0, wl_44, wt_45_0, wl_46, wt_48_0, wt_48_1, wt_49_0, wt_49_1, wt_49_2, wt_50_0, wl_51, wt_52_0, wl_53, wt_54_0, wl_55, wt_56_6, wt_56_7, wt_56_8, wt_56_13, wt_56_14, wt_56_15, wt_56_16, wt_56_18, wt_56_21, wt_56_22, wt_56_23, wt_56_24, wt_56_25, wt_56_26, wt_56_27, wt_56_44, wt_56_45, wt_56_46, wt_56_47, wt_56_48, wt_56_49, wt_56_50, wt_56_51, wt_56_52, wt_56_53, wl_57, wl_58, wl_59, wl_60, wl_61, wl_62, wl_63, wl_64, wl_65, wl_66, wl_67, wl_68, wl_69, wl_70, wl_71, wl_72, wl_73, wl_74, wl_75, wl_76, wl_77, wl_78, wl_79, wl_80, wl_81, wl_82]
      rw [if_pos (inb_nI hk (by decide)), if_pos (inb_nI hk (by decide)), nI_cl hk (by decide), nI_1], by
      rw [hs]
      funext i j
      simp only [mput_app, fillr]
      by_cases h1 : i = 81
      · subst h1
        by_cases h2 : j = k
        · simp [h2]
        · by_cases h3 : j < k
          · simp [h2, h3, show j < k + 1 by omega]
          · simp [h2, h3, show ¬ j < k + 1 by omega]
      · by_cases h4 : i = 80
        · subst h4
          by_cases h2 : j = k
          · simp [h2]
          · by_cases h3 : j < k
            · simp [h2, h3, show j < k + 1 by omega]
            · simp [h2, h3, show ¬ j < k + 1 by omega]
        · simp [h1, h4]⟩) 4 9999 0 (mput τ 56 56 x1) (by omega) (by omega) (by rw [fillr_0, fillr_0])
  rw [f_RM_begin, lt_eq, show (0 : Int32) = nI 0 from rfl, ea, Option.bind_some, h9]
set_option maxRecDepth 100000 in
set_option maxHeartbeats 4000000 in
theorem m_renew {k0 q1 r1 q2 r2 : Nat} {σ : Mem} (h1 : wtg k0 1 = q1) (h2 : wtg q1 0 = r1) (h3 : wln r1 = 4) (h4 : wtg k0 2 = q2) (h5 : wtg q2 0 = r2) (h6 : wln r2 = 4) : f_MD_renew k0 σ = some (fillr (fillr σ r1 4 (σ k0 8)) r2 4 1) := by
  rw [f_MD_renew, h1, h4, ro_fill (k := q1) h2 h3 (by decide), Option.bind_some, ro_fill (k := q2) h5 h6 (by decide), Option.bind_some]
set_option maxRecDepth 100000 in
set_option maxHeartbeats 4000000 in
theorem m_begin {k0 k1 q1 r1 q2 r2 qp rp b ne rs st : Nat} {σ : Mem} (h1 : wtg k0 1 = q1) (h2 : wtg q1 0 = r1) (h3 : wln r1 = 4) (h4 : wtg k0 2 = q2) (h5 : wtg q2 0 = r2) (h6 : wln r2 = 4) (h7 : wtg k1 1 = qp) (h8 : wtg qp 0 = rp) (h9 : wln rp = 3) (hb : σ k1 7 = nI b) (hb8 : b ≤ 8) (hne : ne ≤ 3) (hrs : σ rp 0 = nI rs) (hst : σ rp 1 = nI st) (d1 : ¬ rp = k0) :
    f_MD_begin k0 k1 (nI ne) σ = some (fillr (fillr (mput (mput (mput (mput (mput (mput σ k0 3 (nI (2 ^ b - 1))) k0 4 (nI ne)) k0 5 (nI (2 * ne + 1))) k0 6 (nI ((2 ^ b - 1 + 2 * ne) / (2 * ne + 1) + 1))) k0 7 (nI rs)) k0 8 (nI st)) r1 4 (nI st)) r2 4 1) := by
  have hp := pow_le hb8
  have hq := pow_pos' (b := b)
  rw [f_MD_begin, f_PI_top, hb, top_nI hb8]
  simp only [lt_eq, mput_same, mput_slot, Nat.reduceEqDiff, not_false_eq_true, step_n, h7, f_MD_steps]
  rw [if_neg (show ¬ nI (2 * ne + 1) ≤ 0 from nI_ge (a := 0) (b := 2 * ne + 1) (by omega) (by omega)), show (2 : Int32) * nI ne = nI (2 * ne) from by rw [show (2 : Int32) = nI 2 from rfl, nI_mul], nI_add, nI_div (by omega) (by omega), nI_1]
  rw [show (0 : Int32) = nI 0 from rfl, show (1 : Int32) = nI 1 from rfl, ro_get (k := qp) (a := rp) (n := 3) (i := 0) h8 h9 (by decide) (by decide), ro_get (k := qp) (a := rp) (n := 3) (i := 1) h8 h9 (by decide) (by decide)]
  simp only [mput_cell d1, hrs, hst]
  rw [m_renew h1 h2 h3 h4 h5 h6, Option.bind_some]
  simp only [mput_same]
  rfl
/-- the class's restart, the reference's -/
def C_beg (b5 a6 a7 : Int32) (σ : Mem) : Option (Int32 × Int32 × Mem) := if b5 = 0 then some (a6, a7, σ) else if a7 = b5 then (f_MD_renew 22 (f_SW_mark 21 (208 + (a6 - a6 / 8 * 8)) (f_BK_close 29 σ))).bind fun s => some (a6 + 1, 0, s) else some (a6, a7, σ)
set_option maxRecDepth 100000 in
set_option maxHeartbeats 4000000 in
theorem scan_step {b1 b2 b3 b4 b5 a6 a7 a8 : Int32} {n : Nat} {σ : Mem} (h : ¬ σ 1 6 ≤ a8) : L_SW_scan_43 21 b1 b2 b3 b4 b5 (n + 1) a6 a7 a8 σ = (C_beg b5 a6 a7 σ).bind fun q => (f_SW_addRow 21 b1 b2 b4 a8 (if q.2.1 = 0 then 1 else 0) q.2.2).bind fun s => L_SW_scan_43 21 b1 b2 b3 b4 b5 n q.1 (q.2.1 + 1) (a8 + 1) s := by
  rw [L_SW_scan_43, wt_21_0, wt_21_2, wt_21_3, if_neg h]
  simp only [lt_eq]
  unfold C_beg
  by_cases h1 : b5 = 0
  · rw [if_pos h1, if_pos h1, Option.bind_some]
  · by_cases h2 : a7 = b5
    · rw [if_neg h1, if_neg h1, if_pos h2, if_pos h2, Option.bind_assoc]
      rfl
    · rw [if_neg h1, if_neg h1, if_neg h2, if_neg h2, Option.bind_some]
def R_row (b1 b2 b3 a4 a5 : Int32) (τ : Mem) : Option Mem := if b3 = 2 then (L_RM_data_48 56 b1 b2 b3 a4 a5 9999 0 τ).bind fun q => some q.2 else (L_RM_data_94 56 b1 b2 b3 a4 a5 9999 b1 τ).bind fun q => some q.2
def R_end (a4 a5 : Int32) (t : Mem) : Option (Int32 × Mem) := if t 56 11 ≤ 0 then some (a4, t) else if (a5 + 1) - (a5 + 1) / (t 56 11) * (t 56 11) = 0 then (if t 56 3 ≤ a5 + 1 then some (a4, t) else (f_RM_fill 56 t).bind fun t1 => (f_RM_lay 56 255 t1).bind fun t2 => (f_RM_lay 56 (208 + (a4 - a4 / 8 * 8)) t2).bind fun t3 => (f_RM_begin 56 (a5 + 1) (t3 56 10) t3).bind fun t4 => some (a4 + 1, t4)) else some (a4, t)
set_option maxRecDepth 100000 in
set_option maxHeartbeats 4000000 in
theorem data_step {b1 b2 b3 a4 a5 : Int32} {n : Nat} {τ : Mem} (h : ¬ τ 56 3 ≤ a5) : L_RM_data_31 56 b1 b2 b3 (n + 1) a4 a5 τ = (R_row b1 b2 b3 a4 a5 τ).bind fun t => (R_end a4 a5 t).bind fun q => L_RM_data_31 56 b1 b2 b3 n q.1 (a5 + 1) q.2 := by
  have key : ∀ t : Mem, (if t 56 11 ≤ 0 then L_RM_data_31 56 b1 b2 b3 n a4 (a5 + 1) t else if (a5 + 1) - (a5 + 1) / (t 56 11) * (t 56 11) = 0 then (if t 56 3 ≤ a5 + 1 then L_RM_data_31 56 b1 b2 b3 n a4 (a5 + 1) t else (f_RM_fill 56 t).bind fun t1 => (f_RM_lay 56 255 t1).bind fun t2 => (f_RM_lay 56 (208 + (a4 - a4 / 8 * 8)) t2).bind fun t3 => (f_RM_begin 56 (a5 + 1) (t3 56 10) t3).bind fun t4 => L_RM_data_31 56 b1 b2 b3 n (a4 + 1) (a5 + 1) t4) else L_RM_data_31 56 b1 b2 b3 n a4 (a5 + 1) t) = (R_end a4 a5 t).bind fun q => L_RM_data_31 56 b1 b2 b3 n q.1 (a5 + 1) q.2 := by
    intro t
    unfold R_end
    by_cases h1 : t 56 11 ≤ 0
    · rw [if_pos h1, if_pos h1, Option.bind_some]
    · by_cases h2 : (a5 + 1) - (a5 + 1) / (t 56 11) * (t 56 11) = 0
      · by_cases h3 : t 56 3 ≤ a5 + 1
        · rw [if_neg h1, if_neg h1, if_pos h2, if_pos h2, if_pos h3, if_pos h3, Option.bind_some]
        · rw [if_neg h1, if_neg h1, if_pos h2, if_pos h2, if_neg h3, if_neg h3]
          simp only [Option.bind_assoc, Option.bind_some]
      · rw [if_neg h1, if_neg h1, if_neg h2, if_neg h2, Option.bind_some]
  rw [L_RM_data_31, if_neg h]
  simp only [lt_eq, key]
  unfold R_row
  by_cases h1 : b3 = 2
  · rw [if_pos h1, if_pos h1, Option.bind_assoc]
    rfl
  · rw [if_neg h1, if_neg h1, Option.bind_assoc]
    rfl
set_option maxRecDepth 100000 in
set_option maxHeartbeats 4000000 in
theorem w_row {σ0 τ0 σ τ : Mem} {w h b cc nn rs st rt ne tp fr B lo cn y W : Nat} {tn a4 f5 : Int32} (P : RPic σ0 τ0 w h b cc nn rs st rt) (e54 : τ0 56 54 = nI ne) (e55 : τ0 56 55 = nI tp) (hne : ne ≤ 3) (htp : tp ≤ 255) (hf5 : f5 = if y = fr then 1 else 0) (H : WX σ0 τ0 σ τ ne tp rs st fr (TR lo cn w fr y) Eeq B) (hB : B + W + 40 ≤ 42000) (hW1 : 384 * cn ≤ W) (hW2 : tn = 2 → 1536 ≤ W) (hc : lo + cn ≤ 4) (hw : w ≤ 12) (hy : y < 12) (hfr : fr ≤ y) :
    Both (f_SW_addRow 21 (nI lo) (nI cn) tn (nI y) f5 σ) (R_row (nI lo) (nI (lo + cn)) tn a4 (nI y) τ) (fun a d => WX σ0 τ0 a d ne tp rs st fr (TR lo cn w fr (y + 1)) Eeq (B + W)) := by
  have s5 : σ 1 5 = nI w := by
    obtain ⟨n, cur, u, m, hb, hss, -⟩ := H
    rw [hss.1 1 (by omega), P.1.1]
  unfold R_row
  rw [f_SW_addRow, wt_21_0, s5]
  simp only [lt_eq]
  by_cases h2 : tn = 2
  · subst h2
    simp only [if_true, show ¬ (1 : Int32) = 0 by decide, if_false]
    refine both_bind (w_mix P e54 e55 hne htp hf5 H (by have := hW2 rfl; omega) hc hw hy hfr) (fun a d h9 => both_ret (h9.monoT (fun _ _ _ z => z) (by have := hW2 rfl; omega)))
  · simp only [h2, if_false, if_true]
    exact both_bind (w_line P e54 e55 hne htp hf5 H (by omega) hc hw hy hfr) (fun a d h9 => both_ret (h9.monoT (fun _ _ _ z => z) (by omega)))
