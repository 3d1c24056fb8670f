/-! reading: one mark and what it heads -/
def R_it (τ : Mem) : Option (Int32 × Mem) := (f_RM_isMark 56 τ).bind fun q => if q.1 = 0 then some (0, q.2) else if inb (q.2 56 32 + 1) 6000 = true then (if q.2 64 (q.2 56 32 + 1).toNatClampNeg = 216 then some (0, mput q.2 56 32 (q.2 56 32 + 2)) else if q.2 64 (q.2 56 32 + 1).toNatClampNeg = 217 then some (1, mput q.2 56 32 (q.2 56 32 + 2)) else (f_RM_takeSegment 56 q.2).bind fun t => some (0, t)) else none
set_option maxRecDepth 100000 in
set_option maxHeartbeats 4000000 in
theorem read_step {n : Nat} {τ : Mem} (h : τ 56 28 = 0) : L_RM_read_11 56 (n + 1) 0 τ = (R_it τ).bind fun u => L_RM_read_11 56 n u.1 u.2 := by
  rw [L_RM_read_11, h, if_pos rfl, if_pos rfl]
  unfold R_it
  rw [Option.bind_assoc]
  congr 1
  funext q
  simp only [lt_eq, wt_0_1, wt_0_2, wt_0_3, wt_0_4, wt_0_5, wt_1_0, wt_1_1, wt_1_2, wt_1_3, wt_1_4, wt_2_0, wl_3, wt_4_0, wl_5, wt_6_0, wl_7, wt_8_0, wl_9, wt_10_0, wt_10_1, wt_10_2, wt_11_0, wl_12, wt_13_0, wl_14, wt_15_0, wl_16, wt_17_0, wl_18, wt_19_0, wl_20, wt_21_0, wt_21_1, wt_21_2, wt_21_3, wt_22_0, wt_22_1, wt_22_2, wt_23_0, wl_24, wt_25_0, wl_26, wt_27_0, wl_28, wt_29_0, wt_30_0, wt_30_1, wt_30_2, wt_30_3, wt_30_4, wt_30_5, wt_31_0, wt_31_1, wt_31_2, wt_31_3, wt_31_4, wt_32_0, wl_33, wt_34_0, wl_35, wt_36_0, wl_37, wt_38_0, wl_39, wt_40_0, wt_40_1, wt_40_2, wt_41_0, wl_42, wt_43_0, wl_44, wt_45_0, wl_46, wt_48_0, wt_48_1, wt_49_0, wt_49_1, wt_49_2, wt_50_0, wl_51, wt_52_0, wl_53, wt_54_0, wl_55, wt_56_6, wt_56_7, wt_56_8, wt_56_13, wt_56_14, wt_56_15, wt_56_16, wt_56_18, wt_56_21, wt_56_22, wt_56_23, wt_56_24, wt_56_25, wt_56_26, wt_56_27, wt_56_44, wt_56_45, wt_56_46, wt_56_47, wt_56_48, wt_56_49, wt_56_50, wt_56_51, wt_56_52, wt_56_53, wl_57, wl_58, wl_59, wl_60, wl_61, wl_62, wl_63, wl_64, wl_65, wl_66, wl_67, wl_68, wl_69, wl_70, wl_71, wl_72, wl_73, wl_74, wl_75, wl_76, wl_77, wl_78, wl_79, wl_80, wl_81, wl_82]
  by_cases h1 : q.1 = 0
  · rw [if_pos h1, if_pos h1, Option.bind_some]
  · rw [if_neg h1, if_neg h1]
    by_cases h2 : inb (q.2 56 32 + 1) 6000 = true
    · rw [if_pos h2, if_pos h2]
      by_cases h3 : q.2 64 (q.2 56 32 + 1).toNatClampNeg = 216
      · rw [if_pos h3, if_pos h3, Option.bind_some]
      · rw [if_neg h3, if_neg h3]
        by_cases h4 : q.2 64 (q.2 56 32 + 1).toNatClampNeg = 217
        · rw [if_pos h4, if_pos h4, Option.bind_some]
        · rw [if_neg h4, if_neg h4, Option.bind_assoc]
          rfl
    · rw [if_neg h2, if_neg h2, Option.bind_none]
/-- where reading stands: at byte p, no fault so far -/
def RS (σ0 τ0 : Mem) (m p : Nat) (σ τ : Mem) : Prop := RFr σ0 τ0 σ τ ∧ (∃ w h b c rs st rt nn sc, RH σ τ w h b c rs st rt nn sc ∧ sc ≤ p) ∧ σ 30 6 = nI p ∧ τ 56 32 = nI p ∧ p ≤ m
/-- the end mark was met at p - 2 -/
def RE (σ0 τ0 : Mem) (m p : Nat) (σ τ : Mem) : Prop := τ 56 28 = 0 ∧ τ 56 32 = nI p ∧ p ≤ m ∧ ((p = m ∧ RFr σ0 τ0 σ τ ∧ σ 30 7 = 1 ∧ ∃ w h b c rs st rt nn sc, ¬ c = 0 ∧ (∀ k, k < c → ¬ σ 55 k = 0) ∧ RHf σ τ w h b c ∧ RHp σ τ rs st rt ∧ RHn σ τ nn ∧ RHt σ τ b c ∧ RHs σ τ w h b c sc ∧ σ 30 12 = τ 56 30 ∧ σ 47 0 = 0) ∨ (p < m ∧ ∃ τ1, f_RM_broken 56 9 (nI p) τ = (0, τ1) ∧ FTm σ0 τ0 σ τ1))
set_option maxRecDepth 100000 in
set_option maxHeartbeats 4000000 in
theorem RH.ref32 {σ τ : Mem} {w h b c rs st rt nn sc : Nat} {v : Int32} (H : RH σ τ w h b c rs st rt nn sc) : RH σ (mput τ 56 32 v) w h b c rs st rt nn sc := by
  unfold RH RHf RHp RHn RHt RHs RHz at H ⊢
  have e : ∀ j, ¬ j = 32 → mput τ 56 32 v 56 j = τ 56 j := fun j hj => mput_slot hj
  rw [e 37 (by decide), e 33 (by decide), e 34 (by decide), e 35 (by decide), e 36 (by decide), e 38 (by decide), e 39 (by decide), e 40 (by decide), e 41 (by decide), e 31 (by decide), e 42 (by decide), e 43 (by decide), e 30 (by decide), e 28 (by decide), mput_cell (show ¬ 75 = 56 by decide), mput_cell (show ¬ 76 = 56 by decide), mput_cell (show ¬ 77 = 56 by decide), mput_cell (show ¬ 73 = 56 by decide), mput_cell (show ¬ 74 = 56 by decide), mput_cell (show ¬ 78 = 56 by decide), mput_cell (show ¬ 72 = 56 by decide)]
  exact H
set_option maxRecDepth 100000 in
set_option maxHeartbeats 4000000 in
theorem SH.rh {σ τ : Mem} {d : Nat → Nat} {p w h b c rs st rt nn sc L lo cn ne tn : Nat} {a q : Int32 × Mem} (E : SH σ τ d p c L lo cn ne tn a q) (H : RH σ τ w h b c rs st rt nn sc) : RH a.2 q.2 w h b c rs st rt nn sc := by
  obtain ⟨ea, eq, -⟩ := E
  subst ea eq
  unfold RH RHf RHp RHn RHt RHs RHz at H ⊢
  simp only [mput_same, mput_slot, mput_cell, Nat.reduceEqDiff, not_false_eq_true]
  obtain ⟨h1, h2, h3, h4, ⟨s1, s2, s3, s4, s5⟩, h6⟩ := H
  exact ⟨h1, h2, h3, h4, ⟨s1, s2, s3, s4, fun z => ⟨⟨trivial, trivial⟩, (s5 z).2⟩⟩, h6⟩
set_option maxRecDepth 100000 in
set_option maxHeartbeats 4000000 in
theorem r_step {σ0 τ0 σ τ : Mem} {m p : Nat} {d : Nat → Nat} (B : RB σ0 τ0 m d) (H : RS σ0 τ0 m p σ τ) :
    Both (f_SR_step 30 σ) (R_it τ) (fun a u => (u.1 = 0 ∧ FTm σ0 τ0 a u.2) ∨ (u.1 = 0 ∧ ∃ p1, p + 2 ≤ p1 ∧ RS σ0 τ0 m p1 a u.2) ∨ (u.1 = 1 ∧ RE σ0 τ0 m (p + 2) a u.2)) := by
  obtain ⟨F, ⟨w, h, b, c, rs, st, rt, nn, sc, HH, hsc⟩, e6, e32, hp⟩ := H
  have m6 : m ≤ 6000 := B.2.2.1
  have HZ := HH.2.2.2.2.2
  have hss : σ 30 13 = τ 56 31 := by rw [HH.2.2.2.2.1.2.2.1.1, HH.2.2.2.2.1.2.2.1.2.1]
  unfold R_it
  rw [f_SR_step, e6, wt_30_2]
  refine both_bind (r_mark B F HH hp e32) (fun a q H1 => ?_)
  simp only [lt_eq]
  rcases H1 with ⟨g1, g2⟩ | ⟨g1, g2, g3, g4, g5, g6⟩
  · have hn := g2.next (v := nI p + 2)
    rw [hn.met, if_neg (show ¬ (1 : Int32) = 0 by decide), if_pos g1]
    exact both_ret (Or.inl ⟨rfl, hn⟩)
  · have qa1 : a.1 = nI (d (p + 1)) := by rw [g2]
    have qa2 : a.2 = σ := by rw [g2]
    have qq1 : q.1 = 1 := by rw [g1]
    have qq2 : q.2 = τ := by rw [g1]
    rw [qa1, qa2, qq1, qq2]
    have e1 : nI p + 1 = nI (p + 1) := nI_add p 1
    have e2 : nI p + 2 = nI (p + 2) := nI_add p 2
    have dv := (B.2.2.2 (p + 1) (by omega)).1
    have HN : RH (mput σ 30 6 (nI (p + 2))) τ w h b c rs st rt nn sc := HH.next
    have FN : RFr σ0 τ0 (mput σ 30 6 (nI (p + 2))) τ := F.next
    have lv : ∀ k : Nat, k < 256 → (nI (d (p + 1)) = nI k ↔ d (p + 1) = k) := fun k hk => nI_eq (by omega) (by omega)
    have l216 : nI (d (p + 1)) = 216 ↔ d (p + 1) = 216 := lv 216 (by decide)
    have l217 : nI (d (p + 1)) = 217 ↔ d (p + 1) = 217 := lv 217 (by decide)
    have l218 : nI (d (p + 1)) = 218 ↔ d (p + 1) = 218 := lv 218 (by decide)
    have l221 : nI (d (p + 1)) = 221 ↔ d (p + 1) = 221 := lv 221 (by decide)
    have l247 : nI (d (p + 1)) = 247 ↔ d (p + 1) = 247 := lv 247 (by decide)
    have l248 : nI (d (p + 1)) = 248 ↔ d (p + 1) = 248 := lv 248 (by decide)
    rw [if_neg (show ¬ (1 : Int32) = 0 by decide), e32, e1, e2, if_pos (rd_i B (show p + 1 < m by omega)), rd_r B F (show p + 1 < m by omega), HN.2.2.2.2.2.met, if_pos rfl]
    simp only [l216, l217, l218]
    by_cases z216 : d (p + 1) = 216
    · rw [if_pos z216, if_pos z216]
      exact both_ret (Or.inr (Or.inl ⟨rfl, p + 2, Nat.le_refl _, FN.put56 (by omega), ⟨w, h, b, c, rs, st, rt, nn, sc, HN.ref32, by omega⟩, mput_same, by show mput τ 56 32 (nI (p + 2)) 56 32 = _; rw [mput_same], g3⟩))
    rw [if_neg z216, if_neg z216]
    by_cases z217 : d (p + 1) = 217
    · rw [if_pos z217, if_pos z217]
      obtain ⟨hc0, hall⟩ := g5.1 z217
      obtain ⟨m1, m2⟩ := rd_s B FN
      refine both_ret (Or.inr (Or.inr ⟨rfl, ?_, by show mput τ 56 32 (nI (p + 2)) 56 32 = _; rw [mput_same], g3, ?_⟩))
      · show mput τ 56 32 (nI (p + 2)) 56 28 = 0
        rw [mput_slot (by decide), HZ.2.2.1]
      · rw [f_SR_end, wt_30_0, wt_30_2, mput_same, f_BY_has, m1, if_neg (nI_pos (by omega))]
        by_cases zm : p + 2 = m
        · left
          rw [if_pos (nI_le (show m ≤ p + 2 by omega) (by omega)), if_pos rfl, lt_eq]
          refine ⟨zm, (FN.putC (by decide)).put56 (by omega), mput_same, w, h, b, c, rs, st, rt, nn, sc, hc0, ?_, ?_, ?_, ?_, ?_, ?_, ?_, ?_⟩
          · simp only [mput_cell, Nat.reduceEqDiff, not_false_eq_true]
            exact hall
          · have := HH.1
            unfold RHf at this ⊢
            simp only [mput_slot, mput_cell, Nat.reduceEqDiff, not_false_eq_true]
            exact this
          · have := HH.2.1
            unfold RHp at this ⊢
            simp only [mput_slot, mput_cell, Nat.reduceEqDiff, not_false_eq_true]
            exact this
          · have := HH.2.2.1
            unfold RHn at this ⊢
            simp only [mput_slot, mput_cell, Nat.reduceEqDiff, not_false_eq_true]
            exact this
          · have := HH.2.2.2.1
            unfold RHt at this ⊢
            simp only [mput_slot, mput_cell, Nat.reduceEqDiff, not_false_eq_true]
            exact this
          · have := HH.2.2.2.2.1
            unfold RHs at this ⊢
            simp only [mput_slot, mput_cell, Nat.reduceEqDiff, not_false_eq_true]
            exact this
          · simp only [mput_slot, mput_cell, Nat.reduceEqDiff, not_false_eq_true]
            exact HZ.1
          · simp only [mput_cell, Nat.reduceEqDiff, not_false_eq_true]
            exact HZ.2.1
        · right
          refine ⟨by omega, ?_⟩
          rw [if_neg (nI_ge (show p + 2 < m by omega) (by omega)), if_neg (show ¬ (1 : Int32) = 0 by decide)]
          obtain ⟨s9, u9, es9, et9, f9⟩ := ft_meet (f := 9) (p := nI (p + 2)) (τ := mput τ 56 32 (nI (p + 2))) (FN.put56 (by omega)) HN.ref32.2.2.2.2.2 (by simp only [mput_slot, Nat.reduceEqDiff, not_false_eq_true]; exact hss) (by decide)
          exact ⟨u9, et9, by rw [lt_eq, es9]; exact f9⟩
    rw [if_neg z217, if_neg z217]
    have hssN : mput σ 30 6 (nI (p + 2)) 30 13 = τ 56 31 := by rw [mput_slot (by decide), hss]
    have eTS : f_RM_takeSegment 56 τ = (f_RM_isSegment 56 τ).bind fun q4 => if q4.1 = 0 then some q4.2 else ((if nI (d (p + 1)) = 247 then f_RM_isFrame 56 q4.2 else if nI (d (p + 1)) = 248 then f_RM_isPreset 56 q4.2 else if nI (d (p + 1)) = 221 then f_RM_isRestart 56 q4.2 else if nI (d (p + 1)) = 218 then f_RM_isScan 56 q4.2 else f_RM_isNote 56 q4.2).bind fun u => if u.1 = 0 then some u.2 else if nI (d (p + 1)) = 218 then f_RM_takeScan 56 u.2 else (f_RM_wide 56 (u.2 56 32 + 2) u.2).bind fun r => some (mput u.2 56 32 (u.2 56 32 + (2 + r)))) := by
      rw [f_RM_takeSegment, e32, e1, wt_56_18, wl_64, if_pos (rd_i B (show p + 1 < m by omega)), rd_r B F (show p + 1 < m by omega), lt_eq]
      congr 1
      funext q4
      by_cases y0 : q4.1 = 0
      · rw [if_pos y0, if_pos y0]
      · rw [if_neg y0, if_neg y0]
        simp only [lt_eq, bind_id]
        have kk : ∀ u : Int32 × Mem, (if u.1 = 0 then (if u.1 = 0 then some u.2 else (f_RM_wide 56 (u.2 56 32 + 2) u.2).bind fun r => some (mput u.2 56 32 (u.2 56 32 + (2 + r)))) else if nI (d (p + 1)) = 218 then f_RM_takeScan 56 u.2 else (if u.1 = 0 then some u.2 else (f_RM_wide 56 (u.2 56 32 + 2) u.2).bind fun r => some (mput u.2 56 32 (u.2 56 32 + (2 + r))))) = (if u.1 = 0 then some u.2 else if nI (d (p + 1)) = 218 then f_RM_takeScan 56 u.2 else (f_RM_wide 56 (u.2 56 32 + 2) u.2).bind fun r => some (mput u.2 56 32 (u.2 56 32 + (2 + r)))) := by
          intro u
          by_cases y1 : u.1 = 0
          · simp only [y1, if_true]
          · simp only [y1, if_false]
        simp only [kk]
        by_cases y1 : nI (d (p + 1)) = 247
        · rw [if_pos y1, if_pos y1]
        · rw [if_neg y1, if_neg y1]
          by_cases y2 : nI (d (p + 1)) = 248
          · rw [if_pos y2, if_pos y2]
          · rw [if_neg y2, if_neg y2]
            by_cases y3 : nI (d (p + 1)) = 221
            · rw [if_pos y3, if_pos y3]
            · rw [if_neg y3, if_neg y3]
              by_cases y4 : nI (d (p + 1)) = 218
              · rw [if_pos y4, if_pos y4]
              · rw [if_neg y4, if_neg y4]
    rw [eTS]
    obtain ⟨A, q4, eA, eq4, h4⟩ := r_seg (σ := mput σ 30 6 (nI (p + 2))) B FN HN.2.2.2.2.2 hssN g3 e32
    have eA2 : f_SR_lengthAt 30 (nI p) (mput σ 30 6 (nI (p + 2))) = A := Option.some.inj eA
    rw [eA2, eq4, Option.bind_some]
    rcases h4 with ⟨k1, k2⟩ | ⟨L, k1, k2, hL, k3, k4, k5⟩
    · rw [k2.met, if_neg (show ¬ (1 : Int32) = 0 by decide), if_pos k1, Option.bind_some]
      exact both_ret (Or.inl ⟨rfl, k2⟩)
    · have a1 : A.1 = nI L := by rw [k2]
      have a2 : A.2 = mput σ 30 6 (nI (p + 2)) := by rw [k2]
      have b1 : q4.1 = 1 := by rw [k1]
      have b2 : q4.2 = τ := by rw [k1]
      rw [a1, a2, b1, b2, HN.2.2.2.2.2.met, if_pos rfl, if_neg (show ¬ (1 : Int32) = 0 by decide), nI_add]
      have F2 : RFr σ0 τ0 (mput (mput σ 30 6 (nI (p + 2))) 30 6 (nI (p + 2 + L))) τ := FN.next
      have H2 : RH (mput (mput σ 30 6 (nI (p + 2))) 30 6 (nI (p + 2 + L))) τ w h b c rs st rt nn sc := HN.next
      have hs2 : mput (mput σ 30 6 (nI (p + 2))) 30 6 (nI (p + 2 + L)) 30 13 = τ 56 31 := by rw [mput_slot (by decide), hssN]
      have h13 : mput (mput σ 30 6 (nI (p + 2))) 30 6 (nI (p + 2 + L)) 30 13 = nI sc := H2.2.2.2.2.1.2.2.1.1
      have h6 : mput (mput σ 30 6 (nI (p + 2))) 30 6 (nI (p + 2 + L)) 30 6 = nI (p + 2 + L) := mput_same
      generalize mput (mput σ 30 6 (nI (p + 2))) 30 6 (nI (p + 2 + L)) = σ2 at F2 H2 hs2 h13 h6
      have bad : ∀ f : Int32, ¬ f ≤ 0 → Both (some (f_FA_meet 47 f (nI p) σ2)) (some ((0 : Int32), (f_RM_broken 56 f (nI p) τ).2)) (fun a u => (u.1 = 0 ∧ FTm σ0 τ0 a u.2) ∨ (u.1 = 0 ∧ ∃ p1, p + 2 ≤ p1 ∧ RS σ0 τ0 m p1 a u.2) ∨ (u.1 = 1 ∧ RE σ0 τ0 m (p + 2) a u.2)) := by
        intro f hf
        obtain ⟨s9, u9, es9, et9, f9⟩ := ft_meet (f := f) (p := nI p) F2 H2.2.2.2.2.2 hs2 hf
        rw [es9, et9]
        exact both_ret (Or.inl ⟨rfl, f9⟩)
      have br : ∀ f : Int32, (f_RM_broken 56 f (nI p) τ).1 = 0 := by
        intro f
        rw [f_RM_broken]
        simp only [lt_eq]
        split <;> rfl
      have tk : ∀ (X Y : Option (Int32 × Mem)), Both X Y (TK σ0 τ0 σ2 τ p) → ¬ d (p + 1) = 218 → Both (X.bind fun q13 => if q13.1 = 0 then (if d (p + 1) = 218 then (f_SR_data 30 q13.2).bind fun s => some s else some q13.2) else some (f_FA_meet 47 q13.1 (nI p) q13.2)) ((Y.bind fun u => if u.1 = 0 then some u.2 else if nI (d (p + 1)) = 218 then f_RM_takeScan 56 u.2 else (f_RM_wide 56 (u.2 56 32 + 2) u.2).bind fun r => some (mput u.2 56 32 (u.2 56 32 + (2 + r)))).bind fun t => some ((0 : Int32), t)) (fun a u => (u.1 = 0 ∧ FTm σ0 τ0 a u.2) ∨ (u.1 = 0 ∧ ∃ p1, p + 2 ≤ p1 ∧ RS σ0 τ0 m p1 a u.2) ∨ (u.1 = 1 ∧ RE σ0 τ0 m (p + 2) a u.2)) := by
        intro X Y hXY hn
        obtain ⟨x, y, ex, ey, hxy⟩ := hXY
        rw [ex, ey, Option.bind_some, Option.bind_some]
        rcases hxy with ⟨f, hf, g1, g2⟩ | ⟨g1, g2, g3, g4, g5, w1, h1, b3, c1, rs1, st1, rt1, nn1, sc1, g6⟩
        · have x1 : x.1 = f := by rw [g1]
          have x2 : x.2 = σ2 := by rw [g1]
          have y1 : y.1 = 0 := by rw [g2, br]
          have y2 : y.2 = (f_RM_broken 56 f (nI p) τ).2 := by rw [g2]
          rw [x1, x2, if_neg (show ¬ f = 0 from fun z => hf (by rw [z]; decide)), if_pos y1, y2, Option.bind_some]
          exact bad f hf
        · have hsc1 : sc1 = sc := by
            have z1 : x.2 30 13 = nI sc1 := g6.2.2.2.2.1.2.2.1.1
            rw [g4, h13] at z1
            have z2 : sc1 ≤ 7000 := g6.2.2.2.2.1.2.2.1.2.2
            exact (nI_inj (by omega) (by omega) z1).symm
          have y32 : y.2 56 32 = nI p := by rw [g5, e32]
          have eqq : nI p + (2 + nI L) = nI (p + 2 + L) := by
            rw [show (2 : Int32) = nI 2 from rfl, nI_add, nI_add]
            congr 1
            omega
          rw [if_pos g1, if_neg hn, if_neg (show ¬ y.1 = 0 by rw [g2]; decide), if_neg (fun z => hn (l218.mp z)), y32, e2, rd_wr B g3 (show p + 2 + 1 < m by omega), Option.bind_some, Option.bind_some, show p + 2 + 1 = p + 3 from rfl, ← hL, eqq]
          refine both_ret (Or.inr (Or.inl ⟨rfl, p + 2 + L, by omega, g3.put56 (by omega), ⟨w1, h1, b3, c1, rs1, st1, rt1, nn1, sc1, g6.ref32, by omega⟩, ?_, ?_, k5⟩))
          · rw [g4, h6]
          · show mput y.2 56 32 (nI (p + 2 + L)) 56 32 = _
            rw [mput_same]
      have eta : ∀ X : Option (Int32 × Mem), (X.bind fun q => some (q.1, q.2)) = X := fun X => by cases X <;> rfl
      rw [f_SR_take]
      simp only [l218, l221, l247, l248, eta]
      by_cases y218 : d (p + 1) = 218
      · have hc0 := g5.2.1 y218
        rw [if_pos y218, if_neg (show ¬ d (p + 1) = 247 by omega), if_neg (show ¬ d (p + 1) = 248 by omega), if_neg (show ¬ d (p + 1) = 221 by omega), if_pos y218, Option.bind_assoc]
        refine both_bind (r_scanHead B F2 H2 hc0 e32 hL k4 k5) (fun x y hxy => ?_)
        rcases hxy with ⟨f, hf, g1, g2⟩ | ⟨lo, cn, ne, tn, E⟩
        · have x1 : x.1 = f := by rw [g1]
          have x2 : x.2 = σ2 := by rw [g1]
          have y1 : y.1 = 0 := by rw [g2, br]
          have y2 : y.2 = (f_RM_broken 56 f (nI p) τ).2 := by rw [g2]
          rw [x1, x2, if_neg (show ¬ f = 0 from fun z => hf (by rw [z]; decide)), if_pos y1, y2, Option.bind_some]
          exact bad f hf
        · have HH3 := E.rh H2
          obtain ⟨ex, ey, i1, i2, i3, i4, i5, i6, i7, i8, i9⟩ := E
          have x1 : x.1 = 0 := by rw [ex]
          have y1 : y.1 = 1 := by rw [ey]
          rw [if_pos x1, if_pos y218, if_neg (show ¬ y.1 = 0 by rw [y1]; decide), if_pos y218, bind_id]
          have j1 : ∀ j, x.2 30 j = mput (mput (mput (mput σ2 30 8 (nI lo)) 30 9 (nI cn)) 30 10 (nI ne)) 30 11 (nI tn) 30 j := fun j => by rw [ex]
          have j2 : ∀ j, y.2 56 j = mput (mput τ 56 42 (nI ne)) 56 43 (nI tn) 56 j := fun j => by rw [ey]
          have F3 : RFr σ0 τ0 x.2 y.2 := by
            rw [ex, ey]
            exact ((((F2.putC (by decide)).putC (by decide)).putC (by decide)).putC (by decide)).put56 (by omega) |>.put56 (by omega)
          refine (both_bind (r_data (lo := lo) (cn := cn) (ne := ne) (tn := tn) (L := L) (p := p) B F3 HH3 hc0 (by omega) (by rw [j2]; simp only [mput_slot, Nat.reduceEqDiff, not_false_eq_true]; exact e32) hL k5 (by rw [j1]; simp only [mput_slot, Nat.reduceEqDiff, not_false_eq_true]; exact h6) (by rw [j1]; simp only [mput_same, mput_slot, Nat.reduceEqDiff, not_false_eq_true]) (by rw [j1]; simp only [mput_same, mput_slot, Nat.reduceEqDiff, not_false_eq_true]) (by rw [j1]; simp only [mput_same, mput_slot, Nat.reduceEqDiff, not_false_eq_true]) (by rw [j1]; simp only [mput_same]) (by rw [j2]; simp only [mput_same, mput_slot, Nat.reduceEqDiff, not_false_eq_true]) (by rw [j2]; simp only [mput_same]) i1 i2 i3 i4 i5 i6 i7 i8) (f := fun s => some s) (g := fun t => some ((0 : Int32), t)) (fun a u hau => ?_) : _) |> fun z => by rw [bind_id] at z; exact z
          rcases hau with hau | ⟨x9, v1, v2, v3, v4, v5, v6⟩
          · exact both_ret (Or.inl ⟨rfl, hau⟩)
          · exact both_ret (Or.inr (Or.inl ⟨rfl, x9, by omega, v3, ⟨w, h, b, c, rs, st, rt, nn, sc + 1, v6, by omega⟩, v4, v5, v2⟩))
      · rw [if_neg y218]
        by_cases y221 : d (p + 1) = 221
        · rw [if_pos y221, if_neg (show ¬ d (p + 1) = 247 by omega), if_neg (show ¬ d (p + 1) = 248 by omega), if_pos y221]
          have := tk _ _ (r_restarts B F2 H2 e32 hL k4 k5) y218
          simp only [l218] at this
          exact this
        · rw [if_neg y221]
          by_cases y247 : d (p + 1) = 247
          · rw [if_pos y247, if_pos y247]
            have hc0 := g5.2.2.2.1 y247
            subst hc0
            have := tk _ _ (r_frame B F2 H2 e32 hL k4 k5) y218
            simp only [l218] at this
            exact this
          · rw [if_neg y247, if_neg y247]
            by_cases y248 : d (p + 1) = 248
            · rw [if_pos y248, if_pos y248]
              have := tk _ _ (r_presets B F2 H2 (g5.2.2.2.2 y248).1 e32 hL k4 k5) y218
              simp only [l218] at this
              exact this
            · rw [if_neg y248, if_neg y248, if_neg y221, if_neg y218]
              have := tk _ _ (r_note B F2 H2 e32 hL k4 k5) y218
              simp only [l218] at this
              exact this
