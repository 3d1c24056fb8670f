/-! reading: bits -/
/-- what stays while a scan's data are read -/
def RXF (σs τs σ τ : Mem) (lo cn : Nat) : Prop := (∀ k, ¬ (k = 33 ∨ k = 48 ∨ k = 49 ∨ k = 51 ∨ k = 53 ∨ k = 30) → σ k = σs k) ∧ (∀ j, ¬ j = 12 → σ 30 j = σs 30 j) ∧ (∀ i, ¬ (144 * lo ≤ i ∧ i < 144 * (lo + cn)) → σ 33 i = σs 33 i) ∧ (∀ k, ¬ (k = 56 ∨ k = 79 ∨ k = 80 ∨ k = 81) → τ k = τs k) ∧ (∀ j, ¬ (j = 30 ∨ (54 ≤ j ∧ j ≤ 56) ∨ (60 ≤ j ∧ j ≤ 64)) → τ 56 j = τs 56 j) ∧ σ 30 12 = τ 56 30
/-- the bits: the next byte, the byte that is read, how many of its bits are left -/
def RXb (σ τ : Mem) (m x cur lf : Nat) : Prop := (σ 48 2 = nI x ∧ σ 48 3 = nI cur ∧ σ 48 4 = nI lf) ∧ (τ 56 60 = nI x ∧ τ 56 62 = nI lf ∧ (0 < lf → τ 56 61 = nI cur ∧ τ 56 63 = nI (x - 1) ∧ 1 ≤ x)) ∧ (τ 56 64 = 0 ↔ ¬ cur = 255) ∧ x ≤ m ∧ cur ≤ 255 ∧ lf ≤ 8
def RXm (σ τ : Mem) (ne tp rs st fr : Nat) (T : Nat → Nat → Nat → Prop) : Prop := (σ 49 3 = nI tp ∧ σ 49 4 = nI ne ∧ σ 49 5 = nI (2 * ne + 1) ∧ σ 49 6 = nI ((tp + 2 * ne) / (2 * ne + 1) + 1) ∧ σ 49 7 = nI rs ∧ σ 49 8 = nI st) ∧ (τ 56 54 = nI ne ∧ τ 56 55 = nI tp ∧ τ 56 56 = nI fr) ∧ Eeq (σ 51) (σ 53) (τ 80) (τ 81) ∧ ∀ c x y, T c x y → ∃ v, v ≤ tp ∧ σ 33 (144 * c + 12 * y + x) = nI v ∧ τ 79 (144 * c + 12 * y + x) = nI v
def BS (σ0 τ0 σs τs : Mem) (m : Nat) (d : Nat → Nat) : Prop := RB σ0 τ0 m d ∧ RFr σ0 τ0 σs τs ∧ RHz σs τs ∧ σs 30 13 = τs 56 31
set_option maxRecDepth 100000 in
set_option maxHeartbeats 4000000 in
theorem RXF.fr {σ0 τ0 σs τs σ τ : Mem} {lo cn m : Nat} {d : Nat → Nat} (S : BS σ0 τ0 σs τs m d) (H : RXF σs τs σ τ lo cn) : RFr σ0 τ0 σ τ ∧ RHz σ τ ∧ σ 30 13 = τ 56 31 := by
  obtain ⟨-, F, ⟨z1, z2, z3, z4⟩, s1⟩ := S
  obtain ⟨h1, h2, h3, h4, h5, h6⟩ := H
  refine ⟨⟨fun k hk => by rw [h1 k (by omega), F.1 k hk], fun k i1 i2 => by rw [h4 k (by omega), F.2.1 k i1 i2], fun j hj => by rw [h5 j (by omega), F.2.2 j hj]⟩, ⟨h6, by rw [h1 47 (by omega), z2], by rw [h5 28 (by omega), z3], by rw [h2 7 (by omega), z4]⟩, by rw [h2 13 (by omega), h5 31 (by omega), s1]⟩
set_option maxRecDepth 100000 in
set_option maxHeartbeats 4000000 in
theorem RXF.put48 {σs τs σ τ : Mem} {lo cn j : Nat} {v : Int32} (H : RXF σs τs σ τ lo cn) : RXF σs τs (mput σ 48 j v) τ lo cn := by
  obtain ⟨h1, h2, h3, h4, h5, h6⟩ := H
  exact ⟨fun k hk => by rw [mput_cell (by omega), h1 k hk], fun i hi => by rw [mput_cell (by decide), h2 i hi], fun i hi => by rw [mput_cell (by decide), h3 i hi], h4, h5, by rw [mput_cell (by decide), h6]⟩
set_option maxRecDepth 100000 in
set_option maxHeartbeats 4000000 in
theorem RXF.put56 {σs τs σ τ : Mem} {lo cn j : Nat} {v : Int32} (H : RXF σs τs σ τ lo cn) (hj : (54 ≤ j ∧ j ≤ 56) ∨ (60 ≤ j ∧ j ≤ 64)) : RXF σs τs σ (mput τ 56 j v) lo cn := by
  obtain ⟨h1, h2, h3, h4, h5, h6⟩ := H
  exact ⟨h1, h2, h3, fun k hk => by rw [mput_cell (by omega), h4 k hk], fun i hi => by rw [mput_slot (by omega), h5 i hi], by rw [mput_slot (by omega), h6]⟩
set_option maxRecDepth 100000 in
set_option maxHeartbeats 4000000 in
theorem RXm.congr {σ τ σ1 τ1 : Mem} {ne tp rs st fr : Nat} {T : Nat → Nat → Nat → Prop} (h49 : σ1 49 = σ 49) (h51 : σ1 51 = σ 51) (h53 : σ1 53 = σ 53) (h33 : σ1 33 = σ 33) (h54 : τ1 56 54 = τ 56 54) (h55 : τ1 56 55 = τ 56 55) (h56 : τ1 56 56 = τ 56 56) (h79 : τ1 79 = τ 79) (h80 : τ1 80 = τ 80) (h81 : τ1 81 = τ 81) (H : RXm σ τ ne tp rs st fr T) : RXm σ1 τ1 ne tp rs st fr T := by
  unfold RXm at H ⊢
  rw [h49, h51, h53, h33, h54, h55, h56, h79, h80, h81]
  exact H
/-- what bits leave alone -/
def KB (σ τ σ1 τ1 : Mem) : Prop := (∀ k, ¬ k = 48 → σ1 k = σ k) ∧ (∀ k, ¬ k = 56 → τ1 k = τ k) ∧ ∀ j, ¬ (60 ≤ j ∧ j ≤ 64) → τ1 56 j = τ 56 j
set_option maxRecDepth 100000 in
set_option maxHeartbeats 4000000 in
theorem KB.refl {σ τ : Mem} : KB σ τ σ τ := ⟨fun _ _ => rfl, fun _ _ => rfl, fun _ _ => rfl⟩
set_option maxRecDepth 100000 in
set_option maxHeartbeats 4000000 in
theorem KB.trans {σ τ σ1 τ1 σ2 τ2 : Mem} (h : KB σ τ σ1 τ1) (k : KB σ1 τ1 σ2 τ2) : KB σ τ σ2 τ2 := ⟨fun i hi => by rw [k.1 i hi, h.1 i hi], fun i hi => by rw [k.2.1 i hi, h.2.1 i hi], fun j hj => by rw [k.2.2 j hj, h.2.2 j hj]⟩
set_option maxRecDepth 100000 in
set_option maxHeartbeats 4000000 in
theorem KB.rxf {σs τs σ τ σ1 τ1 : Mem} {lo cn : Nat} (h : KB σ τ σ1 τ1) (H : RXF σs τs σ τ lo cn) : RXF σs τs σ1 τ1 lo cn := by
  obtain ⟨h1, h2, h3, h4, h5, h6⟩ := H
  exact ⟨fun k hk => by rw [h.1 k (by omega), h1 k hk], fun j hj => by rw [h.1 30 (by decide), h2 j hj], fun i hi => by rw [h.1 33 (by decide), h3 i hi], fun k hk => by rw [h.2.1 k (by omega), h4 k hk], fun j hj => by rw [h.2.2 j (by omega), h5 j hj], by rw [h.1 30 (by decide), h.2.2 30 (by decide), h6]⟩
set_option maxRecDepth 100000 in
set_option maxHeartbeats 4000000 in
theorem KB.rxm {σ τ σ1 τ1 : Mem} {ne tp rs st fr : Nat} {T : Nat → Nat → Nat → Prop} (h : KB σ τ σ1 τ1) (H : RXm σ τ ne tp rs st fr T) : RXm σ1 τ1 ne tp rs st fr T :=
  H.congr (h.1 49 (by decide)) (h.1 51 (by decide)) (h.1 53 (by decide)) (h.1 33 (by decide)) (h.2.2 54 (by decide)) (h.2.2 55 (by decide)) (h.2.2 56 (by decide)) (h.2.1 79 (by decide)) (h.2.1 80 (by decide)) (h.2.1 81 (by decide))
/-- a bit of the class: fetched where none is left -/
def c_fet (σ : Mem) : Mem := if σ 48 4 = 0 then f_BO_fetch 48 σ else σ
set_option maxRecDepth 100000 in
set_option maxHeartbeats 4000000 in
theorem bo_step {b1 a2 a3 : Int32} {n : Nat} {σ : Mem} (h : ¬ b1 ≤ a3) (hm : f_FA_met 47 σ = 0) : L_BO_bits_4 48 b1 (n + 1) a2 a3 σ = if c_fet σ 48 4 ≤ 0 then L_BO_bits_4 48 b1 n a2 (a3 + 1) (c_fet σ) else L_BO_bits_4 48 b1 n (a2 * 2 + ((c_fet σ 48 3 >>> ((c_fet σ 48 4 - 1) &&& 31)) &&& 1)) (a3 + 1) (mput (c_fet σ) 48 4 (c_fet σ 48 4 - 1)) := by
  rw [L_BO_bits_4, if_neg h, wt_48_1, hm, if_pos rfl]
  simp only [lt_eq, mput_same, mput_slot, Nat.reduceEqDiff, not_false_eq_true]
  unfold c_fet
  by_cases z : σ 48 4 = 0
  · simp only [z, if_true]
  · simp only [z, if_false]
set_option maxRecDepth 100000 in
set_option maxHeartbeats 4000000 in
theorem r_hear {σ0 τ0 σs τs σ τ : Mem} {m lo cn x cur lf : Nat} {d : Nat → Nat} (S : BS σ0 τ0 σs τs m d) (HF : RXF σs τs σ τ lo cn) (Hb : RXb σ τ m x cur lf) :
    (∃ bit σ1 τ1 x1 cur1 lf1, (∀ b1 n a2 a3, ¬ b1 ≤ a3 → L_BO_bits_4 48 b1 (n + 1) a2 a3 σ = L_BO_bits_4 48 b1 n (a2 * 2 + bit) (a3 + 1) σ1) ∧ f_RM_hear 56 τ = some (bit, τ1) ∧ (bit = 0 ∨ bit = 1) ∧ KB σ τ σ1 τ1 ∧ RXb σ1 τ1 m x1 cur1 lf1 ∧ τ1 56 63 = nI (x1 - 1) ∧ 1 ≤ x1 ∧ x ≤ x1) ∨ (∃ σ1 τ1, (∀ b1 n a2 a3, ¬ b1 ≤ a3 → L_BO_bits_4 48 b1 (n + 1) a2 a3 σ = L_BO_bits_4 48 b1 n a2 (a3 + 1) σ1) ∧ f_RM_hear 56 τ = some (0, τ1) ∧ FTm σ0 τ0 σ1 τ1) := by
  obtain ⟨F, Z, hss⟩ := HF.fr S
  have B := S.1
  have m6 : m ≤ 6000 := B.2.2.1
  obtain ⟨m1, m2⟩ := rd_s B F
  obtain ⟨⟨c1, c2, c3⟩, ⟨t1, t2, t3⟩, hbh, hx, hcur, hlf⟩ := Hb
  have met := Z.met
  have take : ∀ (s t : Mem) (x2 cur2 l2 : Nat), KB σ τ s t → 0 < l2 → l2 ≤ 8 → cur2 ≤ 255 → x2 ≤ m → 1 ≤ x2 → s 48 2 = nI x2 → s 48 3 = nI cur2 → s 48 4 = nI l2 → t 56 60 = nI x2 → t 56 61 = nI cur2 → t 56 62 = nI l2 → t 56 63 = nI (x2 - 1) → (t 56 64 = 0 ↔ ¬ cur2 = 255) → KB σ τ (mput s 48 4 (nI (l2 - 1))) (mput t 56 62 (nI (l2 - 1))) ∧ RXb (mput s 48 4 (nI (l2 - 1))) (mput t 56 62 (nI (l2 - 1))) m x2 cur2 (l2 - 1) ∧ mput t 56 62 (nI (l2 - 1)) 56 63 = nI (x2 - 1) := by
    intro s t x2 cur2 l2 hK g1 g2 g3 g4 g5 h1 h2 h3 h4 h5 h6 h7 h8
    refine ⟨⟨fun k hk => by rw [mput_cell hk, hK.1 k hk], fun k hk => by rw [mput_cell hk, hK.2.1 k hk], fun j hj => by rw [mput_slot (by omega), hK.2.2 j hj]⟩, ?_, by rw [mput_slot (by decide), h7]⟩
    unfold RXb
    simp only [mput_same, mput_slot, Nat.reduceEqDiff, not_false_eq_true]
    exact ⟨⟨h1, h2, trivial⟩, ⟨h4, trivial, fun _ => ⟨h5, h7, g5⟩⟩, h8, g4, g3, by omega⟩
  by_cases hl : lf = 0
  · subst hl
    have ec : c_fet σ = f_BO_fetch 48 σ := by
      unfold c_fet
      rw [c3, if_pos (show nI 0 = 0 from rfl)]
    by_cases hxm : x < m
    · have hbyte := (B.2.2.2 x hxm).1
      have hhas : f_BY_has 19 (nI x) σ = 1 := by
        rw [f_BY_has, m1, if_neg (nI_pos (by omega)), if_neg (nI_ge hxm (by omega))]
      have lxm : nI x < nI m := nI_lt hxm (by omega)
      have l255 : nI cur = 255 ↔ cur = 255 := nI_eq (b := 255) (by omega) (by decide)
      have l127 : nI (d x) ≤ 127 ↔ d x ≤ 127 := nI_leI (b := 127) (by omega) (by decide)
      by_cases hbad : cur = 255 ∧ ¬ d x ≤ 127
      · right
        obtain ⟨s7, u7, es7, et7, f7⟩ := ft_meet (f := 7) (p := nI x) F Z hss (by decide)
        have h48 : s7 48 4 = nI 0 := by
          rw [← es7, f_FA_meet, if_pos Z.2.1, lt_eq, lt_eq, mput_cell (by decide), mput_cell (by decide), c3]
        have ef : f_BO_fetch 48 σ = s7 := by
          rw [f_BO_fetch, wt_48_0, wt_48_1, c1, c2, hhas, if_neg (by decide), rd_c B F hxm]
          simp only [lt_eq]
          rw [if_pos (l255.mpr hbad.1), if_neg (fun z => hbad.2 (l127.mp z)), es7]
        refine ⟨s7, u7, fun b1 n a2 a3 h => ?_, ?_, f7⟩
        · rw [bo_step h met, ec, ef, h48, if_pos (by decide)]
        · rw [f_RM_hear, t2, t1, m2]
          simp only [lt_eq]
          rw [if_pos (show nI 0 = 0 from rfl), if_pos lxm, if_neg (fun z => (hbh.mp z) hbad.1), wt_56_18, wl_64, if_pos (rd_i B hxm), rd_r B F hxm, if_neg (fun z => hbad.2 (l127.mp z)), et7]
      · left
        have hle : cur = 255 → d x ≤ 127 := fun z => Classical.not_not.mp (fun z2 => hbad ⟨z, z2⟩)
        have ef : f_BO_fetch 48 σ = mput (mput (mput σ 48 4 (nI (if cur = 255 then 7 else 8))) 48 3 (nI (d x))) 48 2 (nI (x + 1)) := by
          rw [f_BO_fetch, wt_48_0, wt_48_1, c1, c2, hhas, if_neg (by decide), rd_c B F hxm]
          simp only [lt_eq, mput_same, mput_slot, Nat.reduceEqDiff, not_false_eq_true, c1, c2, nI_1]
          by_cases z : cur = 255
          · rw [if_pos (l255.mpr z), if_pos (l127.mpr (hle z)), if_pos (l255.mpr z), if_pos z]
            rfl
          · rw [if_neg (fun q => z (l255.mp q)), if_neg (fun q => z (l255.mp q)), if_neg z]
            rfl
        have er : ∃ bh : Int32, (bh = 0 ↔ ¬ d x = 255) ∧ f_RM_hear 56 τ = some (((nI (d x)) >>> (nI ((if cur = 255 then 7 else 8) - 1) &&& 31)) &&& 1, mput (mput (mput (mput (mput (mput τ 56 61 (nI (d x))) 56 62 (nI (if cur = 255 then 7 else 8))) 56 64 bh) 56 63 (nI x)) 56 60 (nI (x + 1))) 56 62 (nI ((if cur = 255 then 7 else 8) - 1))) := by
          have ld : nI (d x) = 255 ↔ d x = 255 := nI_eq (b := 255) (by omega) (by decide)
          refine ⟨if nI (d x) = 255 then 1 else 0, ?_, ?_⟩
          · by_cases z : d x = 255
            · rw [if_pos (ld.mpr z)]
              exact ⟨fun q => absurd q (by decide), fun q => absurd z q⟩
            · rw [if_neg (fun q => z (ld.mp q))]
              exact ⟨fun _ => z, fun _ => rfl⟩
          · rw [f_RM_hear, t2, t1, m2]
            simp only [lt_eq, wt_0_1, wt_0_2, wt_0_3, wt_0_4, wt_0_5, wt_1_0, wt_1_1, wt_1_2, wt_1_3, wt_1_4, wt_2_0, wl_3, wt_4_0, wl_5, wt_6_0, wl_7, wt_8_0, wl_9, wt_10_0, wt_10_1, wt_10_2, wt_11_0, wl_12, wt_13_0, wl_14, wt_15_0, wl_16, wt_17_0, wl_18, wt_19_0, wl_20, wt_21_0, wt_21_1, wt_21_2, wt_21_3, wt_22_0, wt_22_1, wt_22_2, wt_23_0, wl_24, wt_25_0, wl_26, wt_27_0, wl_28, wt_29_0, wt_30_0, wt_30_1, wt_30_2, wt_30_3, wt_30_4, wt_30_5, wt_31_0, wt_31_1, wt_31_2, wt_31_3, wt_31_4, wt_32_0, wl_33, wt_34_0, wl_35, wt_36_0, wl_37, wt_38_0, wl_39, wt_40_0, wt_40_1, wt_40_2, wt_41_0, wl_42, wt_43_0, wl_44, wt_45_0, wl_46, wt_48_0, wt_48_1, wt_49_0, wt_49_1, wt_49_2, wt_50_0, wl_51, wt_52_0, wl_53, wt_54_0, wl_55, wt_56_6, wt_56_7, wt_56_8, wt_56_13, wt_56_14, wt_56_15, wt_56_16, wt_56_18, wt_56_21, wt_56_22, wt_56_23, wt_56_24, wt_56_25, wt_56_26, wt_56_27, wt_56_44, wt_56_45, wt_56_46, wt_56_47, wt_56_48, wt_56_49, wt_56_50, wt_56_51, wt_56_52, wt_56_53, wl_57, wl_58, wl_59, wl_60, wl_61, wl_62, wl_63, wl_64, wl_65, wl_66, wl_67, wl_68, wl_69, wl_70, wl_71, wl_72, wl_73, wl_74, wl_75, wl_76, wl_77, wl_78, wl_79, wl_80, wl_81, wl_82]
            rw [if_pos (show nI 0 = 0 from rfl), if_pos lxm]
            have body : ∀ b9 : Int32, (b9 = nI (if cur = 255 then 7 else 8)) → (if inb (nI x) 6000 = true then some ((((nI (d x)) >>> ((b9 - 1) &&& 31)) &&& 1), mput (mput (mput (mput (mput (mput τ 56 61 (nI (d x))) 56 62 b9) 56 64 (if nI (d x) = 255 then 1 else 0)) 56 63 (nI x)) 56 60 (nI x + 1)) 56 62 (b9 - 1)) else none) = some (((nI (d x)) >>> (nI ((if cur = 255 then 7 else 8) - 1) &&& 31)) &&& 1, mput (mput (mput (mput (mput (mput τ 56 61 (nI (d x))) 56 62 (nI (if cur = 255 then 7 else 8))) 56 64 (if nI (d x) = 255 then 1 else 0)) 56 63 (nI x)) 56 60 (nI (x + 1))) 56 62 (nI ((if cur = 255 then 7 else 8) - 1))) := by
              intro b9 hb9
              subst hb9
              rw [if_pos (rd_i B hxm), nI_1, down_1 (by split <;> omega)]
            by_cases z : cur = 255
            · have h64 : ¬ τ 56 64 = 0 := fun q => hbh.mp q z
              rw [if_neg h64, if_pos (rd_i B hxm), rd_r B F hxm, if_pos (l127.mpr (hle z))]
              simp only [mput_same, mput_slot, mput_cell, Nat.reduceEqDiff, not_false_eq_true, h64, if_false, t1]
              rw [rd_r B F hxm]
              exact body 7 (by rw [if_pos z]; rfl)
            · have h64 : τ 56 64 = 0 := hbh.mpr z
              rw [if_pos h64]
              simp only [mput_same, mput_slot, mput_cell, Nat.reduceEqDiff, not_false_eq_true, h64, if_true, t1]
              rw [rd_r B F hxm]
              exact body 8 (by rw [if_neg z]; rfl)
        obtain ⟨bh, hbh2, er⟩ := er
        have hL : 0 < (if cur = 255 then 7 else 8) ∧ (if cur = 255 then 7 else 8) ≤ 8 := by split <;> omega
        generalize (if cur = 255 then 7 else 8) = L at *
        obtain ⟨k1, k2, k3⟩ := take (mput (mput (mput σ 48 4 (nI L)) 48 3 (nI (d x))) 48 2 (nI (x + 1))) (mput (mput (mput (mput (mput τ 56 61 (nI (d x))) 56 62 (nI L)) 56 64 bh) 56 63 (nI x)) 56 60 (nI (x + 1))) (x + 1) (d x) L ⟨fun k hk => by simp only [mput_cell hk], fun k hk => by simp only [mput_cell hk], fun j hj => by rw [mput_slot (by omega), mput_slot (by omega), mput_slot (by omega), mput_slot (by omega), mput_slot (by omega)]⟩ hL.1 hL.2 hbyte (by omega) (by omega) (by simp only [mput_same]) (by simp only [mput_same, mput_slot, Nat.reduceEqDiff, not_false_eq_true]) (by simp only [mput_same, mput_slot, Nat.reduceEqDiff, not_false_eq_true]) (by simp only [mput_same]) (by simp only [mput_same, mput_slot, Nat.reduceEqDiff, not_false_eq_true]) (by simp only [mput_same, mput_slot, Nat.reduceEqDiff, not_false_eq_true]) (by simp only [mput_same, mput_slot, Nat.reduceEqDiff, not_false_eq_true]; congr 1) (by simp only [mput_same, mput_slot, Nat.reduceEqDiff, not_false_eq_true]; exact hbh2)
        refine ⟨_, _, _, x + 1, d x, L - 1, fun b1 n a2 a3 h => ?_, er, and_1 _, k1, k2, k3, by omega, by omega⟩
        rw [bo_step h met, ec, ef]
        simp only [mput_same, mput_slot, Nat.reduceEqDiff, not_false_eq_true]
        rw [if_neg (show ¬ nI L ≤ 0 from nI_ge (a := 0) (b := L) hL.1 (by omega)), down_1 hL.1]
    · right
      have hhas : f_BY_has 19 (nI x) σ = 0 := by
        rw [f_BY_has, m1, if_neg (nI_pos (by omega)), if_pos (nI_le (by omega) (by omega))]
      obtain ⟨s1, u1, es1, et1, f1⟩ := ft_meet (f := 1) (p := nI m) F Z hss (by decide)
      have h48 : s1 48 4 = nI 0 := by
        rw [← es1, f_FA_meet, if_pos Z.2.1, lt_eq, lt_eq, mput_cell (by decide), mput_cell (by decide), c3]
      have ef : f_BO_fetch 48 σ = s1 := by
        rw [f_BO_fetch, wt_48_0, wt_48_1, c1, hhas, if_pos rfl, lt_eq, f_BY_size, m1, es1]
      refine ⟨s1, u1, fun b1 n a2 a3 h => ?_, ?_, f1⟩
      · rw [bo_step h met, ec, ef, h48, if_pos (by decide)]
      · rw [f_RM_hear, t2, t1, m2]
        simp only [lt_eq]
        rw [if_pos (show nI 0 = 0 from rfl), if_neg (Int32.not_lt.mpr (nI_le (by omega) (by omega))), et1]
  · left
    have hl0 : ¬ nI lf = 0 := nI_ne0 (by omega) (by omega)
    have ec : c_fet σ = σ := by
      unfold c_fet
      rw [c3, if_neg hl0]
    obtain ⟨t4, t5, t6⟩ := t3 (by omega)
    obtain ⟨k1, k2, k3⟩ := take σ τ x cur lf KB.refl (by omega) hlf hcur hx t6 c1 c2 c3 t1 t4 t2 t5 hbh
    refine ⟨(nI cur >>> (nI (lf - 1) &&& 31)) &&& 1, _, _, x, cur, lf - 1, fun b1 n a2 a3 h => ?_, ?_, and_1 _, k1, k2, k3, t6, Nat.le_refl _⟩
    · rw [bo_step h met, ec, c2, c3, if_neg (show ¬ nI lf ≤ 0 from nI_ge (a := 0) (b := lf) (by omega) (by omega)), down_1 (by omega)]
    · rw [f_RM_hear, t2]
      simp only [lt_eq]
      rw [if_neg hl0, t2, down_1 (by omega), mput_slot (by decide), mput_same, t4]
