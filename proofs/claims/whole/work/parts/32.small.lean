/-! the small calls -/
set_option maxRecDepth 100000 in
set_option maxHeartbeats 4000000 in
theorem owed_of2 {cds : List (Nat × Int32)} {F : (Int32 ⊕ Nat) × Mem} {σ : Mem} {ref : Mem → Option (Int32 × Mem)} (hI : Inv σ) (h : ∀ τ, Rel σ τ → FrC σ F.2 ∧ ∃ r τ1, ref τ = some (r, τ1) ∧ FrR τ τ1 ∧ Rel F.2 τ1 ∧ Ans cds F.1 (τ1 56 1) r) :
    ∃ k σ2 q, HRes cds (xrIM F) k σ2 ∧ ref σ2 = some q ∧ q.2 56 1 = k ∧ (k = 0 → q.2 82 0 = q.1) ∧ Inv q.2 := by
  have h9 := owed_of (t := F.1) (σ1 := F.2) (cds := cds) (ref := ref) hI (h σ hI).1 (fun τ hτ => (h τ hτ).2)
  exact h9
set_option maxRecDepth 100000 in
set_option maxHeartbeats 4000000 in
theorem fin_thr {cds : List (Nat × Int32)} {σ τ : Mem} {n : Nat} {k : Int32} {F : (Int32 ⊕ Nat) × Mem} {ro : Option (Int32 × Mem)} (H : Rel σ τ) (hF : F = (.inr n, σ)) (hr : ro = some (0, mput τ 56 1 k)) (hm : (n, k) ∈ cds) (hk : ¬ k = 0) : FrC σ F.2 ∧ ∃ r τ1, ro = some (r, τ1) ∧ FrR τ τ1 ∧ Rel F.2 τ1 ∧ Ans cds F.1 (τ1 56 1) r := by
  subst hF
  refine ⟨fun _ _ => rfl, 0, _, hr, FrR.thr, H.thr, ?_⟩
  have e : mput τ 56 1 k 56 1 = k := by rw [mput_app, if_pos ⟨rfl, rfl⟩]
  rw [e]
  exact ⟨hm, hk⟩
set_option maxRecDepth 100000 in
set_option maxHeartbeats 4000000 in
theorem fin_ok {cds : List (Nat × Int32)} {σ τ σ1 τ1 : Mem} {v : Int32} {F : (Int32 ⊕ Nat) × Mem} {ro : Option (Int32 × Mem)} (hF : F = (.inl v, σ1)) (hr : ro = some (v, τ1)) (hC : FrC σ σ1) (hR : FrR τ τ1) (H : Rel σ1 τ1) (h0 : τ1 56 1 = 0) : FrC σ F.2 ∧ ∃ r τ1, ro = some (r, τ1) ∧ FrR τ τ1 ∧ Rel F.2 τ1 ∧ Ans cds F.1 (τ1 56 1) r := by
  subst hF
  exact ⟨hC, v, τ1, hr, hR, H, h0, rfl⟩
/-- is x one of 0 .. c - 1 -/
def inI (x : Int32) (c : Nat) : Int32 := if x < 0 then 0 else if nI c ≤ x then 0 else 1
set_option maxRecDepth 100000 in
set_option maxHeartbeats 4000000 in
theorem inI_yes {k c : Nat} (h : k < c) (hc : c < 2 ^ 31) : inI (nI k) c = 1 := by
  unfold inI
  rw [if_neg (nI_pos (by omega)), if_neg (nI_ge h hc)]
set_option maxRecDepth 100000 in
set_option maxHeartbeats 4000000 in
theorem inI_cases (x : Int32) {c : Nat} (hc : c < 2 ^ 31) : inI x c = 0 ∨ ∃ k, k < c ∧ x = nI k := by
  unfold inI
  by_cases h1 : x < 0
  · simp [h1]
  · by_cases h2 : nI c ≤ x
    · simp [h1, h2]
    · exact Or.inr (i32_lt h1 h2 hc)
set_option maxRecDepth 100000 in
set_option maxHeartbeats 4000000 in
theorem pred_lt {x : Int32} {c : Nat} (hc : c < 2 ^ 31) : (nI c - 1 < x) ↔ (nI c ≤ x) := by
  rw [Int32.lt_iff_toInt_lt, Int32.le_iff_toInt_le, Int32.toInt_sub, nI_toInt hc, show (1 : Int32).toInt = 1 from rfl, Int.bmod_eq_of_le (by omega) (by omega)]
  omega
set_option maxRecDepth 100000 in
set_option maxHeartbeats 4000000 in
theorem isIn0 {x : Int32} {c : Nat} {τ : Mem} (hc : c < 2 ^ 31) : f_RM_isIn x 0 (nI c - 1) τ = inI x c := by
  unfold f_RM_isIn inI
  by_cases h : x < 0
  · simp [h]
  · simp only [h, if_false]
    by_cases h2 : nI c ≤ x
    · rw [if_pos h2, if_pos ((pred_lt hc).mpr h2)]
    · rw [if_neg h2, if_neg (fun z => h2 ((pred_lt hc).mp z))]
set_option maxRecDepth 100000 in
set_option maxHeartbeats 4000000 in
theorem isInN {x : Int32} {c : Nat} {τ : Mem} (hc : c < 2 ^ 31 - 1) : f_RM_isIn x 0 (nI c) τ = inI x (c + 1) := by
  rw [← isIn0 (τ := τ) (by omega), nI_pred]
set_option maxRecDepth 100000 in
set_option maxHeartbeats 4000000 in
theorem top_nI {b : Nat} (h : b ≤ 8) : ((1 : Int32) <<< (nI b &&& 31)) - 1 = nI (2 ^ b - 1) := by
  match b, h with
  | 0, _ => decide +kernel
  | 1, _ => decide +kernel
  | 2, _ => decide +kernel
  | 3, _ => decide +kernel
  | 4, _ => decide +kernel
  | 5, _ => decide +kernel
  | 6, _ => decide +kernel
  | 7, _ => decide +kernel
  | 8, _ => decide +kernel
  | b + 9, h => omega
set_option maxRecDepth 100000 in
set_option maxHeartbeats 4000000 in
theorem pow_le {b : Nat} (h : b ≤ 8) : 2 ^ b ≤ 256 := Nat.pow_le_pow_right (n := 2) (by decide) h
set_option maxRecDepth 100000 in
set_option maxHeartbeats 4000000 in
theorem pow_pos' {b : Nat} : 1 ≤ 2 ^ b := Nat.one_le_two_pow
set_option maxRecDepth 100000 in
set_option maxHeartbeats 4000000 in
theorem nI_c0 {c : Nat} (h : ¬ c = 0) (hc : c < 2 ^ 31) : ¬ nI c = 0 := nI_ne0 (by omega) hc
set_option maxRecDepth 100000 in
set_option maxHeartbeats 4000000 in
theorem place_nI {c x y : Nat} {σ : Mem} : f_LF_placeOf (nI c) (nI x) (nI y) σ = nI (144 * c + 12 * y + x) := by
  unfold f_LF_placeOf
  rw [show (144 : Int32) = nI 144 from rfl, show (12 : Int32) = nI 12 from rfl, nI_mul, nI_mul, nI_add, nI_add]
  congr 1
  omega
set_option maxRecDepth 100000 in
set_option maxHeartbeats 4000000 in
theorem place_nR {c x y : Nat} : ((144 : Int32) * nI c) + ((12 : Int32) * nI y) + nI x = nI (144 * c + 12 * y + x) := by
  rw [show (144 : Int32) = nI 144 from rfl, show (12 : Int32) = nI 12 from rfl, nI_mul, nI_mul, nI_add, nI_add]
set_option maxRecDepth 100000 in
set_option maxHeartbeats 4000000 in
theorem nI_small {k n : Nat} (h : k < n) (hn : n ≤ 6000) : (nI k).toNatClampNeg = k := nI_clamp (by omega)
set_option maxRecDepth 100000 in
set_option maxHeartbeats 4000000 in
theorem o_put : O_put Inv := by
  intro σ p1 p2 p3 p4 hI
  refine owed_of2 hI (fun τ H => ?_)
  obtain ⟨⟨t, hT⟩, ⟨w, h, b, c, nn, rs, st, rt, hPic⟩, ⟨n, hW⟩, ⟨m, hC⟩, hR⟩ := id H
  obtain ⟨⟨s1, s2, s3, s4⟩, ⟨r1, r2, r3, r4⟩, hn, hd, hsam, hrest⟩ := id hPic
  have eF : f_LF_put 0 p1 p2 p3 p4 σ = if nI c = 0 then (.inr 1, σ) else if (if inI p1 c = 0 then (0 : Int32) else if inI p2 w = 0 then 0 else if inI p3 h = 0 then 0 else 1) = 0 then (.inr 2, σ) else if (if p4 < 0 then (0 : Int32) else if (((1 : Int32) <<< (nI b &&& 31)) - 1) < p4 then 0 else 1) = 0 then (.inr 3, σ) else (.inl (f_RO_get 2 (f_LF_placeOf p1 p2 p3 σ) σ), f_RO_set 2 (f_LF_placeOf p1 p2 p3 σ) p4 σ) := by
    unfold f_LF_put f_LF_wantPicture f_PI_hasSample f_PI_hasComponent f_PI_mayBeSample f_PI_top lt xcase inI
    simp only [wt_0_1, wt_0_2, wt_0_3, wt_0_4, wt_0_5, wt_1_0, wt_1_1, wt_1_2, wt_1_3, wt_1_4, wt_2_0, wl_3, wt_4_0, wl_5, wt_6_0, wl_7, wt_8_0, wl_9, wt_10_0, wt_10_1, wt_10_2, wt_11_0, wl_12, wt_13_0, wl_14, wt_15_0, wl_16, wt_17_0, wl_18, wt_19_0, wl_20, wt_21_0, wt_21_1, wt_21_2, wt_21_3, wt_22_0, wt_22_1, wt_22_2, wt_23_0, wl_24, wt_25_0, wl_26, wt_27_0, wl_28, wt_29_0, wt_30_0, wt_30_1, wt_30_2, wt_30_3, wt_30_4, wt_30_5, wt_31_0, wt_31_1, wt_31_2, wt_31_3, wt_31_4, wt_32_0, wl_33, wt_34_0, wl_35, wt_36_0, wl_37, wt_38_0, wl_39, wt_40_0, wt_40_1, wt_40_2, wt_41_0, wl_42, wt_43_0, wl_44, wt_45_0, wl_46, wt_48_0, wt_48_1, wt_49_0, wt_49_1, wt_49_2, wt_50_0, wl_51, wt_52_0, wl_53, wt_54_0, wl_55, wt_56_6, wt_56_7, wt_56_8, wt_56_13, wt_56_14, wt_56_15, wt_56_16, wt_56_18, wt_56_21, wt_56_22, wt_56_23, wt_56_24, wt_56_25, wt_56_26, wt_56_27, wt_56_44, wt_56_45, wt_56_46, wt_56_47, wt_56_48, wt_56_49, wt_56_50, wt_56_51, wt_56_52, wt_56_53, wl_57, wl_58, wl_59, wl_60, wl_61, wl_62, wl_63, wl_64, wl_65, wl_66, wl_67, wl_68, wl_69, wl_70, wl_71, wl_72, wl_73, wl_74, wl_75, wl_76, wl_77, wl_78, wl_79, wl_80, wl_81, wl_82, s1, s2, s3, s4]
    by_cases e1 : nI c = 0
    · simp [e1]
    · simp only [e1, if_false]
      by_cases e2 : p2 < 0 <;> by_cases e3 : nI w ≤ p2 <;> by_cases e4 : p3 < 0 <;> by_cases e5 : nI h ≤ p3 <;> simp [e2, e3, e4, e5]
  have eR : f_RM_put 56 p1 p2 p3 p4 τ = (let V : Int32 := if nI c = 0 then 1 else if inI p1 c = 0 then 2 else if inI p2 w = 0 then 2 else if inI p3 h = 0 then 2 else if (if p4 < 0 then (0 : Int32) else if (((1 : Int32) <<< (nI b &&& 31)) - 1) < p4 then 0 else 1) = 0 then 3 else 0
      if V ≤ 0 then (if inb ((((144 : Int32) * p1) + ((12 : Int32) * p3)) + p2) 576 = true then some (τ 57 ((((144 : Int32) * p1) + ((12 : Int32) * p3)) + p2).toNatClampNeg, mput (mput τ 56 1 V) 57 ((((144 : Int32) * p1) + ((12 : Int32) * p3)) + p2).toNatClampNeg p4) else none) else some (0, mput τ 56 1 V)) := by
    unfold f_RM_put f_RM_isComponent f_RM_topOf lt
    simp only [wt_0_1, wt_0_2, wt_0_3, wt_0_4, wt_0_5, wt_1_0, wt_1_1, wt_1_2, wt_1_3, wt_1_4, wt_2_0, wl_3, wt_4_0, wl_5, wt_6_0, wl_7, wt_8_0, wl_9, wt_10_0, wt_10_1, wt_10_2, wt_11_0, wl_12, wt_13_0, wl_14, wt_15_0, wl_16, wt_17_0, wl_18, wt_19_0, wl_20, wt_21_0, wt_21_1, wt_21_2, wt_21_3, wt_22_0, wt_22_1, wt_22_2, wt_23_0, wl_24, wt_25_0, wl_26, wt_27_0, wl_28, wt_29_0, wt_30_0, wt_30_1, wt_30_2, wt_30_3, wt_30_4, wt_30_5, wt_31_0, wt_31_1, wt_31_2, wt_31_3, wt_31_4, wt_32_0, wl_33, wt_34_0, wl_35, wt_36_0, wl_37, wt_38_0, wl_39, wt_40_0, wt_40_1, wt_40_2, wt_41_0, wl_42, wt_43_0, wl_44, wt_45_0, wl_46, wt_48_0, wt_48_1, wt_49_0, wt_49_1, wt_49_2, wt_50_0, wl_51, wt_52_0, wl_53, wt_54_0, wl_55, wt_56_6, wt_56_7, wt_56_8, wt_56_13, wt_56_14, wt_56_15, wt_56_16, wt_56_18, wt_56_21, wt_56_22, wt_56_23, wt_56_24, wt_56_25, wt_56_26, wt_56_27, wt_56_44, wt_56_45, wt_56_46, wt_56_47, wt_56_48, wt_56_49, wt_56_50, wt_56_51, wt_56_52, wt_56_53, wl_57, wl_58, wl_59, wl_60, wl_61, wl_62, wl_63, wl_64, wl_65, wl_66, wl_67, wl_68, wl_69, wl_70, wl_71, wl_72, wl_73, wl_74, wl_75, wl_76, wl_77, wl_78, wl_79, wl_80, wl_81, wl_82, r1, r2, r3, r4]
    rcases hd with hd | hd
    · subst hd
      simp [show nI 0 = 0 from rfl, mput_app]
    · rw [isIn0 (by omega), isIn0 (by omega), isIn0 (by omega)]
      simp only [f_RM_isIn, mput_app, and_self, if_true, show ¬ (57 : Nat) = 56 by decide, false_and, if_false]
      by_cases e : inb ((((144 : Int32) * p1) + ((12 : Int32) * p3)) + p2) 576 = true <;> simp [e]
  rw [eR]
  by_cases hc : c = 0
  · subst hc
    exact fin_thr (n := 1) (k := 1) H (by rw [eF]; rfl) rfl (by decide) (by decide)
  have hc0 : ¬ nI c = 0 := nI_c0 hc (by omega)
  obtain ⟨d1, d2, d3, d4, d5, d6, d7, d8⟩ : 1 ≤ w ∧ w ≤ 12 ∧ 1 ≤ h ∧ h ≤ 12 ∧ 2 ≤ b ∧ b ≤ 8 ∧ 1 ≤ c ∧ c ≤ 4 := by omega
  simp only [hc0, if_false] at eF ⊢
  rcases inI_cases p1 (c := c) (by omega) with h1 | ⟨k1, hk1, rfl⟩
  · exact fin_thr (n := 2) (k := 2) H (by rw [eF]; simp [h1]) (by simp [h1]) (by decide) (by decide)
  rcases inI_cases p2 (c := w) (by omega) with h2 | ⟨k2, hk2, rfl⟩
  · exact fin_thr (n := 2) (k := 2) H (by rw [eF]; simp [h2, inI_yes hk1 (show c < 2 ^ 31 by omega)]) (by simp [h2, inI_yes hk1 (show c < 2 ^ 31 by omega)]) (by decide) (by decide)
  rcases inI_cases p3 (c := h) (by omega) with h3 | ⟨k3, hk3, rfl⟩
  · exact fin_thr (n := 2) (k := 2) H (by rw [eF]; simp [h3, inI_yes hk1 (show c < 2 ^ 31 by omega), inI_yes hk2 (show w < 2 ^ 31 by omega)]) (by simp [h3, inI_yes hk1 (show c < 2 ^ 31 by omega), inI_yes hk2 (show w < 2 ^ 31 by omega)]) (by decide) (by decide)
  simp only [inI_yes hk1 (show c < 2 ^ 31 by omega), inI_yes hk2 (show w < 2 ^ 31 by omega), inI_yes hk3 (show h < 2 ^ 31 by omega), show ¬ (1 : Int32) = 0 by decide, if_false] at eF ⊢
  by_cases h4 : (if p4 < 0 then (0 : Int32) else if (((1 : Int32) <<< (nI b &&& 31)) - 1) < p4 then 0 else 1) = 0
  · exact fin_thr (n := 3) (k := 3) H (by rw [eF]; simp [h4]) (by simp only [h4, if_true]; rw [if_neg (by decide)]) (by decide) (by decide)
  obtain ⟨v, hv, ev⟩ : ∃ v : Nat, v ≤ 255 ∧ p4 = nI v := by
    rw [top_nI d6] at h4
    by_cases z1 : p4 < 0
    · simp [z1] at h4
    · by_cases z2 : nI (2 ^ b - 1) < p4
      · simp [z1, z2] at h4
      · have hp := pow_le d6
        obtain ⟨v, hv, e⟩ := i32_of z1 (Int32.not_lt.mp z2) (by omega)
        exact ⟨v, by omega, e⟩
  simp only [h4, if_false, place_nI, place_nR, inb_nI (show 144 * k1 + 12 * k3 + k2 < 576 by omega) (by decide), if_true, nI_clamp (show 144 * k1 + 12 * k3 + k2 < 2 ^ 31 by omega), show (0 : Int32) ≤ 0 by decide] at eF ⊢
  rw [ro_get (a := 3) (n := 576) (by decide +kernel) (by decide +kernel) (by omega) (by decide), ro_set (a := 3) (n := 576) (by decide +kernel) (by decide +kernel) (by omega) (by decide)] at eF
  refine fin_ok (v := σ 3 (144 * k1 + 12 * k3 + k2)) eF (by rw [hsam.1 _ (by omega)]) (fun k hk => mput_cell (by omega)) (fun k hk => by rw [mput_cell (by omega), mput_cell (by omega)]) ?_ (by simp [mput_app])
  have hP1 := (Rel.thr (v := 0) H)
  obtain ⟨⟨t, hT⟩, -, ⟨n, hW⟩, ⟨m, hC⟩, hR⟩ := hP1
  refine ⟨⟨t, hT.congr (mput_cell (by decide)) (by rw [mput_cell (by decide)])⟩, ⟨w, h, b, c, nn, rs, st, rt, ?_⟩, ⟨n, hW.congr (mput_cell (by decide)) (mput_cell (by decide)) (mput_cell (by decide)) (by rw [mput_cell (by decide)]) (mput_cell (by decide))⟩, ⟨m, hC.congr (mput_cell (by decide)) (mput_cell (by decide)) (by rw [mput_cell (by decide)]) (mput_cell (by decide))⟩, hR.congr (fun k _ _ => mput_cell (by omega)) (fun j _ _ => by rw [mput_cell (by decide)]) (fun k _ _ => mput_cell (by omega))⟩
  unfold RPic
  simp only [mput_row, mput_cell, Nat.reduceEqDiff, not_false_eq_true]
  refine ⟨⟨s1, s2, s3, s4⟩, by simp [upd, r1, r2, r3, r4], by simpa [upd] using hn, hd, ⟨eqn_upd hsam.1, by rw [ev]; exact bnd_upd hsam.2 hv⟩, hrest.1, hrest.2.1, by simpa [upd] using hrest.2.2.1, hrest.2.2.2⟩
set_option maxRecDepth 100000 in
set_option maxHeartbeats 4000000 in
theorem Rel.pic {σ τ σ1 τ1 : Mem} (H : Rel σ τ) (hσ : ∀ k, (k < 1 ∨ 17 ≤ k) → σ1 k = σ k) (h56 : ∀ j, (j < 1 ∨ 13 ≤ j) → τ1 56 j = τ 56 j) (hτ : ∀ k, 63 ≤ k → τ1 k = τ k) {w h b c nn rs st rt : Nat} (hP : RPic σ1 τ1 w h b c nn rs st rt) : Rel σ1 τ1 := by
  obtain ⟨⟨t, hT⟩, -, ⟨n, hW⟩, ⟨m, hC⟩, hR⟩ := H
  exact ⟨⟨t, hT.congr (hσ 0 (by decide)) (h56 0 (by decide))⟩, ⟨w, h, b, c, nn, rs, st, rt, hP⟩, ⟨n, hW.congr (hσ 17 (by decide)) (hσ 18 (by decide)) (hσ 29 (by decide)) (h56 17 (by decide)) (hτ 63 (by decide))⟩, ⟨m, hC.congr (hσ 19 (by decide)) (hσ 20 (by decide)) (h56 19 (by decide)) (hτ 64 (by decide))⟩, hR.congr (fun k _ _ => hσ k (by omega)) (fun j _ _ => h56 j (by omega)) (fun k _ _ => hτ k (by omega))⟩
set_option maxRecDepth 100000 in
set_option maxHeartbeats 4000000 in
theorem Rel.came {σ τ σ1 τ1 : Mem} (H : Rel σ τ) (hσ : ∀ k, (k < 19 ∨ 21 ≤ k) → σ1 k = σ k) (h56 : ∀ j, ¬ j = 1 → ¬ j = 19 → τ1 56 j = τ 56 j) (hτ : ∀ k, 57 ≤ k → ¬ k = 64 → τ1 k = τ k) {m : Nat} (hP : RCa σ1 τ1 m) : Rel σ1 τ1 := by
  obtain ⟨⟨t, hT⟩, ⟨w, h, b, c, nn, rs, st, rt, hQ⟩, ⟨n, hW⟩, -, hR⟩ := H
  exact ⟨⟨t, hT.congr (hσ 0 (by decide)) (h56 0 (by decide) (by decide))⟩, ⟨w, h, b, c, nn, rs, st, rt, hQ.congr (fun k _ _ => hσ k (by omega)) (fun j _ _ => h56 j (by omega) (by omega)) (fun k _ _ => hτ k (by omega) (by omega))⟩, ⟨n, hW.congr (hσ 17 (by decide)) (hσ 18 (by decide)) (hσ 29 (by decide)) (h56 17 (by decide) (by decide)) (hτ 63 (by decide) (by decide))⟩, ⟨m, hP⟩, hR.congr (fun k _ _ => hσ k (by omega)) (fun j _ _ => h56 j (by omega) (by omega)) (fun k _ _ => hτ k (by omega) (by omega))⟩
set_option maxRecDepth 100000 in
set_option maxHeartbeats 4000000 in
theorem o_preset : O_preset Inv := by
  intro σ p1 p2 hI
  have h9 := owed_of2 (F := f_LF_preset 0 p1 p2 σ) (cds := [(1, 1), (3, 2)]) (ref := fun τ => some (f_RM_preset 56 p1 p2 τ)) hI (fun τ H => ?_)
  · obtain ⟨k, σ2, q, a1, a2, a3, a4, a5⟩ := h9
    have e : f_RM_preset 56 p1 p2 σ2 = q := Option.some.inj a2
    subst e
    exact ⟨k, σ2, a1, a3, a4, a5⟩
  obtain ⟨⟨t, hT⟩, ⟨w, h, b, c, nn, rs, st, rt, hPic⟩, ⟨n, hW⟩, ⟨m, hC⟩, hR⟩ := id H
  obtain ⟨⟨s1, s2, s3, s4⟩, ⟨r1, r2, r3, r4⟩, hn, hd, hsam, htab, hnum, ⟨q1, q2, q3, q4, q5, q6, q7, q8, q9⟩, hrest⟩ := id hPic
  have hok : ∀ v : Int32, f_PI_mayPreset p1 p2 σ = v → (if p1 = 0 then (if (f_RM_isIn p2 (3 : Int32) (255 : Int32) τ) = 0 then (if p1 = (1 : Int32) then (if (f_RM_isIn p2 (1 : Int32) (255 : Int32) τ) = 0 then (if p1 = (2 : Int32) then (if (f_RM_isIn p2 (0 : Int32) (12 : Int32) τ) = 0 then (0 : Int32) else (1 : Int32)) else (0 : Int32)) else (1 : Int32)) else (if p1 = (2 : Int32) then (if (f_RM_isIn p2 (0 : Int32) (12 : Int32) τ) = 0 then (0 : Int32) else (1 : Int32)) else (0 : Int32))) else (1 : Int32)) else (if p1 = (1 : Int32) then (if (f_RM_isIn p2 (1 : Int32) (255 : Int32) τ) = 0 then (if p1 = (2 : Int32) then (if (f_RM_isIn p2 (0 : Int32) (12 : Int32) τ) = 0 then (0 : Int32) else (1 : Int32)) else (0 : Int32)) else (1 : Int32)) else (if p1 = (2 : Int32) then (if (f_RM_isIn p2 (0 : Int32) (12 : Int32) τ) = 0 then (0 : Int32) else (1 : Int32)) else (0 : Int32)))) = v := by
    intro v hv
    subst hv
    unfold f_PI_mayPreset f_RM_isIn
    by_cases e0 : p1 = 0
    · subst e0
      by_cases a : p2 < 3 <;> by_cases a2 : 255 < p2 <;> simp [a, a2]
    · by_cases e1 : p1 = 1
      · subst e1
        by_cases a : p2 < 1 <;> by_cases a2 : 255 < p2 <;> simp [a, a2]
      · by_cases e2 : p1 = 2
        · subst e2
          by_cases a : p2 < 0 <;> by_cases a2 : 12 < p2 <;> simp [a, a2]
        · simp [e0, e1, e2]
  by_cases hc : c = 0
  · subst hc
    refine fin_thr (n := 1) (k := 1) H ?_ ?_ (by decide) (by decide)
    · unfold f_LF_preset f_LF_wantPicture xcase
      simp only [wt_0_1, wt_0_2, wt_0_3, wt_0_4, wt_0_5, wt_1_0, wt_1_1, wt_1_2, wt_1_3, wt_1_4, wt_2_0, wl_3, wt_4_0, wl_5, wt_6_0, wl_7, wt_8_0, wl_9, wt_10_0, wt_10_1, wt_10_2, wt_11_0, wl_12, wt_13_0, wl_14, wt_15_0, wl_16, wt_17_0, wl_18, wt_19_0, wl_20, wt_21_0, wt_21_1, wt_21_2, wt_21_3, wt_22_0, wt_22_1, wt_22_2, wt_23_0, wl_24, wt_25_0, wl_26, wt_27_0, wl_28, wt_29_0, wt_30_0, wt_30_1, wt_30_2, wt_30_3, wt_30_4, wt_30_5, wt_31_0, wt_31_1, wt_31_2, wt_31_3, wt_31_4, wt_32_0, wl_33, wt_34_0, wl_35, wt_36_0, wl_37, wt_38_0, wl_39, wt_40_0, wt_40_1, wt_40_2, wt_41_0, wl_42, wt_43_0, wl_44, wt_45_0, wl_46, wt_48_0, wt_48_1, wt_49_0, wt_49_1, wt_49_2, wt_50_0, wl_51, wt_52_0, wl_53, wt_54_0, wl_55, wt_56_6, wt_56_7, wt_56_8, wt_56_13, wt_56_14, wt_56_15, wt_56_16, wt_56_18, wt_56_21, wt_56_22, wt_56_23, wt_56_24, wt_56_25, wt_56_26, wt_56_27, wt_56_44, wt_56_45, wt_56_46, wt_56_47, wt_56_48, wt_56_49, wt_56_50, wt_56_51, wt_56_52, wt_56_53, wl_57, wl_58, wl_59, wl_60, wl_61, wl_62, wl_63, wl_64, wl_65, wl_66, wl_67, wl_68, wl_69, wl_70, wl_71, wl_72, wl_73, wl_74, wl_75, wl_76, wl_77, wl_78, wl_79, wl_80, wl_81, wl_82, s4, show nI 0 = 0 from rfl, if_true]
    · unfold f_RM_preset lt
      simp only [r4, show nI 0 = 0 from rfl, if_true, mput_app, and_self]
      rw [if_neg (by decide)]
  have hc0 : ¬ nI c = 0 := nI_c0 hc (by omega)
  by_cases hm : f_PI_mayPreset p1 p2 σ = 0
  · refine fin_thr (n := 3) (k := 2) H ?_ ?_ (by decide) (by decide)
    · unfold f_LF_preset f_LF_wantPicture xcase
      simp only [wt_0_1, wt_0_2, wt_0_3, wt_0_4, wt_0_5, wt_1_0, wt_1_1, wt_1_2, wt_1_3, wt_1_4, wt_2_0, wl_3, wt_4_0, wl_5, wt_6_0, wl_7, wt_8_0, wl_9, wt_10_0, wt_10_1, wt_10_2, wt_11_0, wl_12, wt_13_0, wl_14, wt_15_0, wl_16, wt_17_0, wl_18, wt_19_0, wl_20, wt_21_0, wt_21_1, wt_21_2, wt_21_3, wt_22_0, wt_22_1, wt_22_2, wt_23_0, wl_24, wt_25_0, wl_26, wt_27_0, wl_28, wt_29_0, wt_30_0, wt_30_1, wt_30_2, wt_30_3, wt_30_4, wt_30_5, wt_31_0, wt_31_1, wt_31_2, wt_31_3, wt_31_4, wt_32_0, wl_33, wt_34_0, wl_35, wt_36_0, wl_37, wt_38_0, wl_39, wt_40_0, wt_40_1, wt_40_2, wt_41_0, wl_42, wt_43_0, wl_44, wt_45_0, wl_46, wt_48_0, wt_48_1, wt_49_0, wt_49_1, wt_49_2, wt_50_0, wl_51, wt_52_0, wl_53, wt_54_0, wl_55, wt_56_6, wt_56_7, wt_56_8, wt_56_13, wt_56_14, wt_56_15, wt_56_16, wt_56_18, wt_56_21, wt_56_22, wt_56_23, wt_56_24, wt_56_25, wt_56_26, wt_56_27, wt_56_44, wt_56_45, wt_56_46, wt_56_47, wt_56_48, wt_56_49, wt_56_50, wt_56_51, wt_56_52, wt_56_53, wl_57, wl_58, wl_59, wl_60, wl_61, wl_62, wl_63, wl_64, wl_65, wl_66, wl_67, wl_68, wl_69, wl_70, wl_71, wl_72, wl_73, wl_74, wl_75, wl_76, wl_77, wl_78, wl_79, wl_80, wl_81, wl_82, s4, hc0, if_false, hm, if_true]
    · unfold f_RM_preset lt
      simp only [hok 0 hm, r4, hc0, if_false, if_true, mput_app, and_self]
      rw [if_neg (by decide)]
  have hcase : (p1 = 0 ∧ ∃ v : Nat, v ≤ 255 ∧ p2 = nI v) ∨ (p1 = 1 ∧ ∃ v : Nat, v ≤ 255 ∧ p2 = nI v) ∨ (p1 = 2 ∧ ∃ v : Nat, v ≤ 12 ∧ p2 = nI v) := by
    unfold f_PI_mayPreset at hm
    by_cases e0 : p1 = 0
    · left
      refine ⟨e0, ?_⟩
      simp only [e0, if_true] at hm
      by_cases a : p2 < 3
      · simp [a] at hm
      · by_cases b9 : 255 < p2
        · simp [a, b9] at hm
        · exact i32_of (n := 255) (fun z => a (by (simp only [Int32.lt_iff_toInt_lt, Int32.le_iff_toInt_le, ← Int32.toInt_inj, Int32.toInt_add, Int32.toInt_sub, Int32.toInt_mul, Int32.toInt_neg, Int.bmod_def] at *; simp at *; omega))) (Int32.not_lt.mp b9) (by decide)
    · by_cases e1 : p1 = 1
      · right; left
        refine ⟨e1, ?_⟩
        simp only [e0, e1, if_true, if_false, show ¬ (1 : Int32) = 0 by decide] at hm
        by_cases a : p2 < 1
        · simp [a] at hm
        · by_cases b9 : 255 < p2
          · simp [a, b9] at hm
          · exact i32_of (n := 255) (fun z => a (by (simp only [Int32.lt_iff_toInt_lt, Int32.le_iff_toInt_le, ← Int32.toInt_inj, Int32.toInt_add, Int32.toInt_sub, Int32.toInt_mul, Int32.toInt_neg, Int.bmod_def] at *; simp at *; omega))) (Int32.not_lt.mp b9) (by decide)
      · by_cases e2 : p1 = 2
        · right; right
          refine ⟨e2, ?_⟩
          simp only [e0, e1, e2, if_true, if_false, show ¬ (2 : Int32) = 0 by decide, show ¬ (2 : Int32) = 1 by decide] at hm
          by_cases a : p2 < 0
          · simp [a] at hm
          · by_cases b9 : 12 < p2
            · simp [a, b9] at hm
            · exact i32_of (n := 12) a (Int32.not_lt.mp b9) (by decide)
        · simp [e0, e1, e2] at hm
  have hok1 : ∃ z : Int32, z = f_PI_mayPreset p1 p2 σ ∧ ¬ z = 0 := ⟨_, rfl, hm⟩
  obtain ⟨z, hz, hz0⟩ := hok1
  have e1 : f_LF_preset 0 p1 p2 σ = (.inl (f_RO_get 4 p1 σ), f_RO_set 4 p1 p2 σ) := by
    unfold f_LF_preset f_LF_wantPicture xcase lt
    simp only [wt_0_1, wt_0_2, wt_0_3, wt_0_4, wt_0_5, wt_1_0, wt_1_1, wt_1_2, wt_1_3, wt_1_4, wt_2_0, wl_3, wt_4_0, wl_5, wt_6_0, wl_7, wt_8_0, wl_9, wt_10_0, wt_10_1, wt_10_2, wt_11_0, wl_12, wt_13_0, wl_14, wt_15_0, wl_16, wt_17_0, wl_18, wt_19_0, wl_20, wt_21_0, wt_21_1, wt_21_2, wt_21_3, wt_22_0, wt_22_1, wt_22_2, wt_23_0, wl_24, wt_25_0, wl_26, wt_27_0, wl_28, wt_29_0, wt_30_0, wt_30_1, wt_30_2, wt_30_3, wt_30_4, wt_30_5, wt_31_0, wt_31_1, wt_31_2, wt_31_3, wt_31_4, wt_32_0, wl_33, wt_34_0, wl_35, wt_36_0, wl_37, wt_38_0, wl_39, wt_40_0, wt_40_1, wt_40_2, wt_41_0, wl_42, wt_43_0, wl_44, wt_45_0, wl_46, wt_48_0, wt_48_1, wt_49_0, wt_49_1, wt_49_2, wt_50_0, wl_51, wt_52_0, wl_53, wt_54_0, wl_55, wt_56_6, wt_56_7, wt_56_8, wt_56_13, wt_56_14, wt_56_15, wt_56_16, wt_56_18, wt_56_21, wt_56_22, wt_56_23, wt_56_24, wt_56_25, wt_56_26, wt_56_27, wt_56_44, wt_56_45, wt_56_46, wt_56_47, wt_56_48, wt_56_49, wt_56_50, wt_56_51, wt_56_52, wt_56_53, wl_57, wl_58, wl_59, wl_60, wl_61, wl_62, wl_63, wl_64, wl_65, wl_66, wl_67, wl_68, wl_69, wl_70, wl_71, wl_72, wl_73, wl_74, wl_75, wl_76, wl_77, wl_78, wl_79, wl_80, wl_81, wl_82, s4, hc0, if_false, hm]
  have e2 : f_RM_preset 56 p1 p2 τ = ((if p1 = 0 then τ 56 9 else if p1 = 1 then τ 56 10 else τ 56 11), mput (mput (mput (mput τ 56 1 0) 56 9 (if p1 = 0 then p2 else τ 56 9)) 56 10 (if p1 = 1 then p2 else τ 56 10)) 56 11 (if p1 = 2 then p2 else τ 56 11)) := by
    unfold f_RM_preset lt
    simp only [hok z hz.symm, r4, hc0, hz0, if_false, mput_app, and_self, if_true, show (0 : Int32) ≤ 0 by decide]
    simp
  rw [e2]
  rcases hcase with ⟨rfl, v, hv, rfl⟩ | ⟨rfl, v, hv, rfl⟩ | ⟨rfl, v, hv, rfl⟩
  · refine fin_ok (v := nI rs) (e1.trans ?_) ?_ ?_ ?_ ?_ ?_ (σ1 := mput σ 5 0 (nI v)) (τ1 := mput (mput (mput (mput τ 56 1 0) 56 9 (nI v)) 56 10 (τ 56 10)) 56 11 (τ 56 11))
    · rw [show (0 : Int32) = nI 0 from rfl, ro_get (a := 5) (n := 3) (by decide +kernel) (by decide +kernel) (by decide) (by decide), ro_set (a := 5) (n := 3) (by decide +kernel) (by decide +kernel) (by decide) (by decide), q1]
    · simp [q4]
    · exact fun k hk => mput_cell (by omega)
    · exact fun k hk => by simp only [mput_cell (show ¬ k = 56 by omega)]
    · refine H.pic (fun k hk => mput_cell (by omega)) (fun j hj => by simp [mput_app, show ¬ j = 1 by omega, show ¬ j = 9 by omega, show ¬ j = 10 by omega, show ¬ j = 11 by omega]) (fun k hk => by simp only [mput_cell (show ¬ k = 56 by omega)]) (w := w) (h := h) (b := b) (c := c) (nn := nn) (rs := v) (st := st) (rt := rt) ?_
      unfold RPic
      simp only [mput_row, mput_cell, Nat.reduceEqDiff, not_false_eq_true]
      exact ⟨⟨s1, s2, s3, s4⟩, by simp [upd, r1, r2, r3, r4], by simpa [upd] using hn, hd, hsam, htab, hnum, ⟨by simp [upd], by simp [upd, q2], by simp [upd, q3], by simp [upd], by simp [upd, q5], by simp [upd, q6], hv, q8, q9⟩, hrest⟩
    · simp [mput_app]
  · refine fin_ok (v := nI st) (e1.trans ?_) ?_ ?_ ?_ ?_ ?_ (σ1 := mput σ 5 1 (nI v)) (τ1 := mput (mput (mput (mput τ 56 1 0) 56 9 (τ 56 9)) 56 10 (nI v)) 56 11 (τ 56 11))
    · rw [show (1 : Int32) = nI 1 from rfl, ro_get (a := 5) (n := 3) (by decide +kernel) (by decide +kernel) (by decide) (by decide), ro_set (a := 5) (n := 3) (by decide +kernel) (by decide +kernel) (by decide) (by decide), q2]
    · simp [q5]
    · exact fun k hk => mput_cell (by omega)
    · exact fun k hk => by simp only [mput_cell (show ¬ k = 56 by omega)]
    · refine H.pic (fun k hk => mput_cell (by omega)) (fun j hj => by simp [mput_app, show ¬ j = 1 by omega, show ¬ j = 9 by omega, show ¬ j = 10 by omega, show ¬ j = 11 by omega]) (fun k hk => by simp only [mput_cell (show ¬ k = 56 by omega)]) (w := w) (h := h) (b := b) (c := c) (nn := nn) (rs := rs) (st := v) (rt := rt) ?_
      unfold RPic
      simp only [mput_row, mput_cell, Nat.reduceEqDiff, not_false_eq_true]
      exact ⟨⟨s1, s2, s3, s4⟩, by simp [upd, r1, r2, r3, r4], by simpa [upd] using hn, hd, hsam, htab, hnum, ⟨by simp [upd, q1], by simp [upd], by simp [upd, q3], by simp [upd, q4], by simp [upd], by simp [upd, q6], q7, hv, q9⟩, hrest⟩
    · simp [mput_app]
  · refine fin_ok (v := nI rt) (e1.trans ?_) ?_ ?_ ?_ ?_ ?_ (σ1 := mput σ 5 2 (nI v)) (τ1 := mput (mput (mput (mput τ 56 1 0) 56 9 (τ 56 9)) 56 10 (τ 56 10)) 56 11 (nI v))
    · rw [show (2 : Int32) = nI 2 from rfl, ro_get (a := 5) (n := 3) (by decide +kernel) (by decide +kernel) (by decide) (by decide), ro_set (a := 5) (n := 3) (by decide +kernel) (by decide +kernel) (by decide) (by decide), q3]
    · simp [q6]
    · exact fun k hk => mput_cell (by omega)
    · exact fun k hk => by simp only [mput_cell (show ¬ k = 56 by omega)]
    · refine H.pic (fun k hk => mput_cell (by omega)) (fun j hj => by simp [mput_app, show ¬ j = 1 by omega, show ¬ j = 9 by omega, show ¬ j = 10 by omega, show ¬ j = 11 by omega]) (fun k hk => by simp only [mput_cell (show ¬ k = 56 by omega)]) (w := w) (h := h) (b := b) (c := c) (nn := nn) (rs := rs) (st := st) (rt := v) ?_
      unfold RPic
      simp only [mput_row, mput_cell, Nat.reduceEqDiff, not_false_eq_true]
      exact ⟨⟨s1, s2, s3, s4⟩, by simp [upd, r1, r2, r3, r4], by simpa [upd] using hn, hd, hsam, htab, hnum, ⟨by simp [upd, q1], by simp [upd, q2], by simp [upd], by simp [upd, q4], by simp [upd, q5], by simp [upd], q7, q8, hv⟩, hrest⟩
    · simp [mput_app]
