/-! one sample: learning and telling -/
set_option maxRecDepth 100000 in
set_option maxHeartbeats 4000000 in
theorem mput_twice {σ : Mem} {a b i : Nat} {v1 v2 v3 v4 : Int32} (h : ¬ a = b) : mput (mput (mput (mput σ a i v1) b i v2) a i v3) b i v4 = mput (mput σ a i v3) b i v4 := by
  funext k j
  simp only [mput_app]
  by_cases h1 : k = b ∧ j = i
  · simp [h1]
  · by_cases h2 : k = a ∧ j = i
    · simp [h1, h2]
    · simp [h1, h2]
def lrS (s n rs y : Int32) : Int32 := (if n = rs then s / 2 else s) + (if 0 ≤ y then y else -y)
def lrN (n rs : Int32) : Int32 := (if n = rs then n / 2 else n) + 1
set_option maxRecDepth 100000 in
set_option maxHeartbeats 4000000 in
theorem m_learn {k0 q1 r1 q2 r2 c : Nat} {y : Int32} {σ : Mem} (h1 : wtg k0 1 = q1) (h2 : wtg q1 0 = r1) (h3 : wln r1 = 4) (h4 : wtg k0 2 = q2) (h5 : wtg q2 0 = r2) (h6 : wln r2 = 4) (hc : c < 4) : f_MD_learn k0 (nI c) y σ = mput (mput σ r1 c (lrS (σ r1 c) (σ r2 c) (σ k0 7) y)) r2 c (lrN (σ r2 c) (σ k0 7)) := by
  have ia : iabs y = if 0 ≤ y then y else -y := by
    unfold iabs
    rw [Int32.zero_sub]
  rw [f_MD_learn, h1, h4, ro_get (k := q1) h2 h3 hc (by decide), ro_get (k := q2) h5 h6 hc (by decide), ia]
  simp only [lt_eq]
  unfold lrS lrN
  by_cases h : σ r2 c = σ k0 7
  · rw [if_pos h, if_pos h, if_pos h, ro_set (k := q1) h2 h3 hc (by decide), ro_set (k := q2) h5 h6 hc (by decide)]
  · rw [if_neg h, if_neg h, if_neg h, ro_set (k := q1) h2 h3 hc (by decide), ro_set (k := q2) h5 h6 hc (by decide)]
set_option maxRecDepth 100000 in
set_option maxHeartbeats 4000000 in
theorem rm_count {c : Nat} {y rs : Int32} {τ : Mem} (hc : c < 4) : f_RM_count 56 (nI c) y rs τ = some (mput (mput τ 80 c (lrS (τ 80 c) (τ 81 c) rs y)) 81 c (lrN (τ 81 c) rs)) := by
  have ib : inb (nI c) 4 = true := inb_nI hc (by decide)
  have cl : (nI c).toNatClampNeg = c := nI_cl hc (by decide)
  rw [f_RM_count]
  simp only [lt_eq, wt_0_1, wt_0_2, wt_0_3, wt_0_4, wt_0_5, wt_1_0, wt_1_1, wt_1_2, wt_1_3, wt_1_4, wt_2_0, wl_3, wt_4_0, wl_5, wt_6_0, wl_7, wt_8_0, wl_9, wt_10_0, wt_10_1, wt_10_2, wt_11_0, wl_12, wt_13_0, wl_14, wt_15_0, wl_16, wt_17_0, wl_18, wt_19_0, wl_20, wt_21_0, wt_21_1, wt_21_2, wt_21_3, wt_22_0, wt_22_1, wt_22_2, wt_23_0, wl_24, wt_25_0, wl_26, wt_27_0, wl_28, wt_29_0, wt_30_0, wt_30_1, wt_30_2, wt_30_3, wt_30_4, wt_30_5, wt_31_0, wt_31_1, wt_31_2, wt_31_3, wt_31_4, wt_32_0, wl_33, wt_34_0, wl_35, wt_36_0, wl_37, wt_38_0, wl_39, wt_40_0, wt_40_1, wt_40_2, wt_41_0, wl_42, wt_43_0, wl_44, wt_45_0, wl_46, wt_48_0, wt_48_1, wt_49_0, wt_49_1, wt_49_2, wt_50_0, wl_51, wt_52_0, wl_53, wt_54_0, wl_55, wt_56_6, wt_56_7, wt_56_8, wt_56_13, wt_56_14, wt_56_15, wt_56_16, wt_56_18, wt_56_21, wt_56_22, wt_56_23, wt_56_24, wt_56_25, wt_56_26, wt_56_27, wt_56_44, wt_56_45, wt_56_46, wt_56_47, wt_56_48, wt_56_49, wt_56_50, wt_56_51, wt_56_52, wt_56_53, wl_57, wl_58, wl_59, wl_60, wl_61, wl_62, wl_63, wl_64, wl_65, wl_66, wl_67, wl_68, wl_69, wl_70, wl_71, wl_72, wl_73, wl_74, wl_75, wl_76, wl_77, wl_78, wl_79, wl_80, wl_81, wl_82, ib, cl, if_true]
  unfold lrS lrN
  by_cases h : τ 81 c = rs
  · simp only [h, if_true, mput_same, mput_slot, mput_cell, Nat.reduceEqDiff, not_false_eq_true]
    rw [mput_twice (by decide)]
  · simp only [h, if_false, mput_same, mput_slot, mput_cell, Nat.reduceEqDiff, not_false_eq_true]
set_option maxRecDepth 100000 in
set_option maxHeartbeats 4000000 in
theorem clip_eq {tp : Nat} {x : Int32} (h : tp ≤ 255) : ∃ g, g ≤ tp ∧ imax 0 (imin (nI tp) x) = nI g ∧ (if 0 ≤ x then (if x ≤ nI tp then x else nI tp) else (0 : Int32)) = nI g := by
  unfold imax imin
  by_cases h0 : 0 ≤ x
  · by_cases h1 : x ≤ nI tp
    · obtain ⟨g, hg, rfl⟩ := i32_of (Int32.not_lt.mpr h0) h1 (by omega)
      refine ⟨g, hg, ?_, by rw [if_pos h0, if_pos h1]⟩
      have e : (if nI g < nI tp then nI g else nI tp) = nI g := by
        by_cases z : nI g < nI tp
        · rw [if_pos z]
        · rw [if_neg z]
          have : g = tp := by
            by_cases z2 : g < tp
            · exact absurd (nI_lt z2 (by omega)) z
            · omega
          rw [this]
      rw [e]
      by_cases z : (0 : Int32) < nI g
      · rw [if_pos z]
      · rw [if_neg z]
        have : g = 0 := by
          by_cases z2 : 0 < g
          · exact absurd (nI_lt (a := 0) z2 (by omega)) z
          · omega
        rw [this]
        rfl
    · refine ⟨tp, by omega, ?_, by rw [if_pos h0, if_neg h1]⟩
      rw [if_neg (fun z => h1 (Int32.le_of_lt z))]
      by_cases z : (0 : Int32) < nI tp
      · rw [if_pos z]
      · rw [if_neg z]
        have : tp = 0 := by
          by_cases z2 : 0 < tp
          · exact absurd (nI_lt (a := 0) z2 (by omega)) z
          · omega
        rw [this]
        rfl
  · refine ⟨0, by omega, ?_, by rw [if_neg h0]; rfl⟩
    have hx : x < 0 := Int32.not_le.mp h0
    rw [if_pos (Int32.lt_of_lt_of_le hx (nI_pos' (by omega))), if_neg (fun z => h0 (Int32.le_of_lt z))]
    rfl
/-- an error told with a sign becomes a number -/
def foldE (y : Int32) : Int32 := if 0 ≤ y then 2 * y else -2 * y - 1
set_option maxRecDepth 100000 in
set_option maxHeartbeats 4000000 in
theorem foldE_n {y : Int32} (h1 : -2000 ≤ y.toInt) (h2 : y.toInt ≤ 2000) : ∃ e, e ≤ 4001 ∧ foldE y = nI e := by
  unfold foldE
  by_cases h : 0 ≤ y
  · rw [if_pos h]
    rw [Int32.le_iff_toInt_le] at h
    have h0 : (0 : Int32).toInt = 0 := rfl
    refine ⟨2 * y.toInt.toNat, by omega, ?_⟩
    rw [← Int32.toInt_inj, nI_toInt (by omega), Int32.toInt_mul, show (2 : Int32).toInt = 2 from rfl, Int.bmod_eq_of_le (by omega) (by omega)]
    omega
  · rw [if_neg h]
    rw [Int32.le_iff_toInt_le] at h
    have h0 : (0 : Int32).toInt = 0 := rfl
    refine ⟨(-2 * y.toInt - 1).toNat, by omega, ?_⟩
    have e2 : (-2 * y.toInt).bmod (2 ^ 32) = -2 * y.toInt := Int.bmod_eq_of_le (by omega) (by omega)
    rw [← Int32.toInt_inj, nI_toInt (by omega), Int32.toInt_sub, Int32.toInt_mul, show (-2 : Int32).toInt = -2 from by decide, show (1 : Int32).toInt = 1 from rfl, e2, Int.bmod_eq_of_le (by omega) (by omega)]
    omega
/-- the error of a sample: its steps, brought into the range -/
def errE (v r : Int32) : Int32 := lt (if 0 ≤ v then v else v + r) fun y => if y < (r + 1) / 2 then y else y - r
set_option maxRecDepth 100000 in
set_option maxHeartbeats 4000000 in
theorem errE_n {v : Int32} {R : Nat} (h1 : -300 ≤ v.toInt) (h2 : v.toInt ≤ 300) (hR : R ≤ 300) : -2000 ≤ (errE v (nI R)).toInt ∧ (errE v (nI R)).toInt ≤ 2000 := by
  unfold errE
  rw [lt_eq]
  have hr := nI_toInt (n := R) (by omega)
  have a1 : (v + nI R).toInt = v.toInt + R := by
    rw [Int32.toInt_add, hr, Int.bmod_eq_of_le (by omega) (by omega)]
  have a2 : (v - nI R).toInt = v.toInt - R := by
    rw [Int32.toInt_sub, hr, Int.bmod_eq_of_le (by omega) (by omega)]
  have a3 : (v + nI R - nI R).toInt = v.toInt := by
    rw [Int32.toInt_sub, hr, a1, Int.bmod_eq_of_le (by omega) (by omega)]
    omega
  by_cases z : 0 ≤ v
  · rw [if_pos z]
    split
    · omega
    · rw [a2]; omega
  · rw [if_neg z]
    split
    · rw [a1]; omega
    · rw [a3]; omega
set_option maxRecDepth 100000 in
set_option maxHeartbeats 4000000 in
theorem steps_n {s p ne : Nat} (hs : s ≤ 255) (hp : p ≤ 255) (hne : ne ≤ 3) : ∃ v : Int32, (if nI s - nI p ≤ 0 then -((nI ne - (nI s - nI p)) / nI (2 * ne + 1)) else (nI s - nI p + nI ne) / nI (2 * ne + 1)) = v ∧ -300 ≤ v.toInt ∧ v.toInt ≤ 300 := by
  have hd : (nI s - nI p).toInt = s - p := by
    rw [Int32.toInt_sub, nI_toInt (by omega), nI_toInt (by omega), Int.bmod_eq_of_le (by omega) (by omega)]
  refine ⟨_, rfl, ?_⟩
  by_cases z : s ≤ p
  · have z0 : nI s - nI p ≤ 0 := by
      rw [Int32.le_iff_toInt_le, hd]
      show (s : Int) - p ≤ 0
      omega
    have e : nI ne - (nI s - nI p) = nI (ne + p - s) := by
      rw [← Int32.toInt_inj, Int32.toInt_sub, hd, nI_toInt (by omega), nI_toInt (by omega), Int.bmod_eq_of_le (by omega) (by omega)]
      omega
    have hq : (ne + p - s) / (2 * ne + 1) ≤ ne + p - s := Nat.div_le_self _ _
    rw [if_pos z0, e, nI_div (by omega) (by omega)]
    generalize (ne + p - s) / (2 * ne + 1) = q at hq ⊢
    rw [Int32.toInt_neg, nI_toInt (by omega), Int.bmod_eq_of_le (by omega) (by omega)]
    omega
  · have z0 : ¬ nI s - nI p ≤ 0 := by
      rw [Int32.le_iff_toInt_le, hd]
      show ¬ (s : Int) - p ≤ 0
      omega
    have e : nI s - nI p + nI ne = nI (s - p + ne) := by
      rw [← Int32.toInt_inj, Int32.toInt_add, hd, nI_toInt (by omega), nI_toInt (by omega), Int.bmod_eq_of_le (by omega) (by omega)]
      omega
    have hq : (s - p + ne) / (2 * ne + 1) ≤ s - p + ne := Nat.div_le_self _ _
    rw [if_neg z0, e, nI_div (by omega) (by omega)]
    generalize (s - p + ne) / (2 * ne + 1) = q at hq ⊢
    rw [nI_toInt (by omega)]
    omega
set_option maxRecDepth 100000 in
set_option maxHeartbeats 4000000 in
theorem step_n {ne : Nat} : 2 * nI ne + 1 = nI (2 * ne + 1) := by
  rw [show (2 : Int32) = nI 2 from rfl, nI_mul, nI_1]
set_option maxRecDepth 100000 in
set_option maxHeartbeats 4000000 in
theorem step_nz {ne : Nat} (h : ne ≤ 3) : (nI (2 * ne + 1) != 0) = true := by
  rw [bne_iff_ne]
  exact nI_ne0 (by omega) (by omega)
set_option maxRecDepth 100000 in
set_option maxHeartbeats 4000000 in
theorem rm_range {τ : Mem} {ne tp : Nat} (h1 : τ 56 54 = nI ne) (h2 : τ 56 55 = nI tp) (hn : ne ≤ 3) (ht : tp ≤ 255) : f_RM_range 56 τ = some (nI ((tp + 2 * ne) / (2 * ne + 1) + 1)) := by
  rw [f_RM_range, f_RM_step, h1, h2, step_n, if_pos (step_nz hn), show (2 : Int32) = nI 2 from rfl, nI_mul, nI_add, nI_div (by omega) (by omega), nI_1]
/-- what the reference does with a sample's error -/
def R_tl (x1 x2 x3 v1 r3 d y : Int32) (τ : Mem) : Option Mem :=
  (f_RM_lengthOf 56 x1 τ).bind fun r =>
  ((L_RM_tell_190 56 x1 x2 x3 v1 r3 d y (foldE y) r (if (20 : Int32) ≤ foldE y >>> (r &&& 31) then 20 else foldE y >>> (r &&& 31)) 9999 0 τ).bind fun q => (f_RM_bit 56 1 q.2).bind fun t => if (20 : Int32) ≤ (if (20 : Int32) ≤ foldE y >>> (r &&& 31) then 20 else foldE y >>> (r &&& 31)) then f_RM_lowBits 56 (foldE y) 9 t else f_RM_lowBits 56 (foldE y) r t).bind fun t =>
  f_RM_count 56 x1 y (t 56 9) t
set_option maxRecDepth 100000 in
set_option maxHeartbeats 4000000 in
theorem foldE_f (y : Int32) : (if 0 ≤ y then (2 : Int32) * y else (-2 : Int32) * y - 1) = foldE y := rfl
set_option maxRecDepth 100000 in
set_option maxHeartbeats 4000000 in
theorem R_tl_f (x1 x2 x3 v1 r3 d y : Int32) (τ : Mem) : ((f_RM_lengthOf 56 x1 τ).bind fun r => (L_RM_tell_190 56 x1 x2 x3 v1 r3 d y (foldE y) r (if (20 : Int32) ≤ foldE y >>> (r &&& 31) then 20 else foldE y >>> (r &&& 31)) 9999 0 τ).bind fun q => (f_RM_bit 56 1 q.2).bind fun t => if (20 : Int32) ≤ (if (20 : Int32) ≤ foldE y >>> (r &&& 31) then 20 else foldE y >>> (r &&& 31)) then (f_RM_lowBits 56 (foldE y) 9 t).bind fun t2 => f_RM_count 56 x1 y (t2 56 9) t2 else (f_RM_lowBits 56 (foldE y) r t).bind fun t2 => f_RM_count 56 x1 y (t2 56 9) t2) = R_tl x1 x2 x3 v1 r3 d y τ := by
  unfold R_tl
  congr 1
  funext r
  rw [Option.bind_assoc]
  congr 1
  funext q
  rw [Option.bind_assoc]
  congr 1
  funext t
  split <;> rfl
set_option maxRecDepth 100000 in
set_option maxHeartbeats 4000000 in
theorem rm_tell {x1 x2 x3 v1 r3 S R : Int32} {τ : Mem} (hv : (((144 : Int32) * x1) + ((12 : Int32) * x3)) + x2 = v1) (hf : f_RM_foretold 56 x1 x2 x3 τ = some r3) (hi : inb v1 576 = true) (hS : f_RM_step 56 τ = S) (hS0 : (S != 0) = true) (hR : ∀ x, f_RM_range 56 (mput τ 79 v1.toNatClampNeg x) = some R) :
    f_RM_tell 56 x1 x2 x3 τ = lt (if τ 57 v1.toNatClampNeg - r3 ≤ 0 then -((τ 56 54 - (τ 57 v1.toNatClampNeg - r3)) / S) else (τ 57 v1.toNatClampNeg - r3 + τ 56 54) / S) fun v => R_tl x1 x2 x3 v1 r3 (τ 57 v1.toNatClampNeg - r3) (errE v R) (mput τ 79 v1.toNatClampNeg (f_RM_clipped 56 (r3 + S * v) τ)) := by
  rw [f_RM_tell, hv, hf, hS]
  unfold errE
  simp only [lt_eq, wt_0_1, wt_0_2, wt_0_3, wt_0_4, wt_0_5, wt_1_0, wt_1_1, wt_1_2, wt_1_3, wt_1_4, wt_2_0, wl_3, wt_4_0, wl_5, wt_6_0, wl_7, wt_8_0, wl_9, wt_10_0, wt_10_1, wt_10_2, wt_11_0, wl_12, wt_13_0, wl_14, wt_15_0, wl_16, wt_17_0, wl_18, wt_19_0, wl_20, wt_21_0, wt_21_1, wt_21_2, wt_21_3, wt_22_0, wt_22_1, wt_22_2, wt_23_0, wl_24, wt_25_0, wl_26, wt_27_0, wl_28, wt_29_0, wt_30_0, wt_30_1, wt_30_2, wt_30_3, wt_30_4, wt_30_5, wt_31_0, wt_31_1, wt_31_2, wt_31_3, wt_31_4, wt_32_0, wl_33, wt_34_0, wl_35, wt_36_0, wl_37, wt_38_0, wl_39, wt_40_0, wt_40_1, wt_40_2, wt_41_0, wl_42, wt_43_0, wl_44, wt_45_0, wl_46, wt_48_0, wt_48_1, wt_49_0, wt_49_1, wt_49_2, wt_50_0, wl_51, wt_52_0, wl_53, wt_54_0, wl_55, wt_56_6, wt_56_7, wt_56_8, wt_56_13, wt_56_14, wt_56_15, wt_56_16, wt_56_18, wt_56_21, wt_56_22, wt_56_23, wt_56_24, wt_56_25, wt_56_26, wt_56_27, wt_56_44, wt_56_45, wt_56_46, wt_56_47, wt_56_48, wt_56_49, wt_56_50, wt_56_51, wt_56_52, wt_56_53, wl_57, wl_58, wl_59, wl_60, wl_61, wl_62, wl_63, wl_64, wl_65, wl_66, wl_67, wl_68, wl_69, wl_70, wl_71, wl_72, wl_73, wl_74, wl_75, wl_76, wl_77, wl_78, wl_79, wl_80, wl_81, wl_82, hi, if_true, Option.bind_some, hS0, hR, bind_id, foldE_f, R_tl_f]
  generalize τ 57 v1.toNatClampNeg - r3 = D
  by_cases hd : D ≤ 0
  · simp only [hd, if_true]
    generalize -((τ 56 54 - D) / S) = V
    by_cases h0 : 0 ≤ V
    · simp only [h0, if_true]
      by_cases h1 : V < (R + 1) / 2
      · simp only [h1, if_true]
      · simp only [h1, if_false]
    · simp only [h0, if_false]
      by_cases h1 : V + R < (R + 1) / 2
      · simp only [h1, if_true]
      · simp only [h1, if_false]
  · simp only [hd, if_false]
    generalize (D + τ 56 54) / S = V
    by_cases h0 : 0 ≤ V
    · simp only [h0, if_true]
      by_cases h1 : V < (R + 1) / 2
      · simp only [h1, if_true]
      · simp only [h1, if_false]
    · simp only [h0, if_false]
      by_cases h1 : V + R < (R + 1) / 2
      · simp only [h1, if_true]
      · simp only [h1, if_false]
set_option maxRecDepth 100000 in
set_option maxHeartbeats 4000000 in
theorem m_tell {k0 q ra c i p s ne tp : Nat} {σ : Mem} (hq : wtg k0 0 = q) (hr : wtg q 0 = ra) (hn : wln ra = 576) (hrk : ¬ k0 = ra) (hi : i < 576) (h3 : σ k0 3 = nI tp) (h4 : σ k0 4 = nI ne) (h5 : σ k0 5 = nI (2 * ne + 1)) (h6 : σ k0 6 = nI ((tp + 2 * ne) / (2 * ne + 1) + 1)) (hne : ne ≤ 3) :
    f_MD_tell k0 (nI c) (nI i) (nI p) (nI s) σ = lt (if nI s - nI p ≤ 0 then -((nI ne - (nI s - nI p)) / nI (2 * ne + 1)) else (nI s - nI p + nI ne) / nI (2 * ne + 1)) fun v => (foldE (errE v (nI ((tp + 2 * ne) / (2 * ne + 1) + 1))), f_MD_learn k0 (nI c) (errE v (nI ((tp + 2 * ne) / (2 * ne + 1) + 1))) (mput σ ra i (imax 0 (imin (nI tp) (nI p + nI (2 * ne + 1) * v))))) := by
  have s0 : ∀ x, f_MD_steps k0 x σ = x / nI (2 * ne + 1) := by
    intro x
    rw [f_MD_steps, h5, if_neg (show ¬ nI (2 * ne + 1) ≤ 0 from nI_ge (a := 0) (b := 2 * ne + 1) (by omega) (by omega))]
  rw [f_MD_tell]
  simp only [s0, lt_eq, f_MD_toSample, hq, h3, h4, h5, errE, foldE_f]
  generalize (if nI s - nI p ≤ 0 then -((nI ne - (nI s - nI p)) / nI (2 * ne + 1)) else (nI s - nI p + nI ne) / nI (2 * ne + 1)) = V
  rw [ro_set (k := q) hr hn hi (by decide)]
  simp only [mput_cell hrk, h6]
  generalize nI ((tp + 2 * ne) / (2 * ne + 1) + 1) = R
  by_cases h0 : 0 ≤ V
  · simp only [h0, if_true]
    by_cases h1 : V < (R + 1) / 2
    · simp only [h1, if_true]
    · simp only [h1, if_false]
  · simp only [h0, if_false]
    by_cases h1 : V + R < (R + 1) / 2
    · simp only [h1, if_true]
    · simp only [h1, if_false]
