/-! reading: a sample -/
def c_samp (c x y fl : Int32) (σ : Mem) : Option Mem := (f_MD_shift 49 c σ).bind fun r => (f_BO_code 48 r σ).bind fun q => some (f_MD_untell 49 c (f_LF_placeOf c x y q.2) (f_MD_foretell 49 c x y fl σ) q.1 q.2)
/-- an error out of its number -/
def unfE (e : Int32) : Int32 := if (e &&& 1) = 0 then e / 2 else -((e + 1) / 2)
def wrapE (v tp ne S R : Int32) : Int32 := if -ne ≤ v then (if v ≤ tp + ne then v else v - S * R) else v + S * R
set_option maxRecDepth 100000 in
set_option maxHeartbeats 4000000 in
theorem m_untell {c i : Nat} {v e : Int32} {σ : Mem} (hc : c < 4) (hi : i < 576) : f_MD_untell 49 (nI c) (nI i) v e σ = mput (mput (mput σ 33 i (imax 0 (imin (σ 49 3) (wrapE (v + σ 49 5 * unfE e) (σ 49 3) (σ 49 4) (σ 49 5) (σ 49 6))))) 51 c (lrS (σ 51 c) (σ 53 c) (σ 49 7) (unfE e))) 53 c (lrN (σ 53 c) (σ 49 7)) := by
  rw [f_MD_untell]
  unfold wrapE unfE
  simp only [lt_eq, f_MD_toSample]
  generalize (if (e &&& 1) = 0 then e / 2 else -((e + 1) / 2)) = V
  have k : ∀ y : Int32, f_MD_learn 49 (nI c) V (f_RO_set (wtg 49 0) (nI i) (imax 0 (imin (σ 49 3) y)) σ) = mput (mput (mput σ 33 i (imax 0 (imin (σ 49 3) y))) 51 c (lrS (σ 51 c) (σ 53 c) (σ 49 7) V)) 53 c (lrN (σ 53 c) (σ 49 7)) := by
    intro y
    rw [wt_49_0, ro_set (k := 32) (a := 33) (n := 576) wt_32_0 wl_33 hi (by decide), m_learn (k0 := 49) (q1 := 50) (r1 := 51) (q2 := 52) (r2 := 53) wt_49_1 wt_50_0 wl_51 wt_49_2 wt_52_0 wl_53 hc]
    simp only [mput_cell, Nat.reduceEqDiff, not_false_eq_true]
  simp only [k]
  by_cases h1 : -σ 49 4 ≤ v + σ 49 5 * V
  · by_cases h2 : v + σ 49 5 * V ≤ σ 49 3 + σ 49 4
    · simp only [h1, h2, if_true]
    · simp only [h1, h2, if_true, if_false]
  · simp only [h1, if_false]
set_option maxRecDepth 100000 in
set_option maxHeartbeats 4000000 in
theorem untell_fr {c i k : Nat} {v e : Int32} {σ : Mem} (hc : c < 4) (hi : i < 576) (hk : k ≤ 30 ∨ k = 47 ∨ 56 ≤ k) : f_MD_untell 49 (nI c) (nI i) v e σ k = σ k := by
  rw [m_untell hc hi, mput_cell (by omega), mput_cell (by omega), mput_cell (by omega)]
/-- what the reference does with a code that was heard -/
def refE (e : Int32) : Int32 := if (e - e / (2 : Int32) * (2 : Int32)) = 0 then (e / (2 : Int32)) else (-((e + (1 : Int32)) / (2 : Int32)))
def R_k8 (x1 x2 x3 y w : Int32) (τ : Mem) : Option Mem := if inb ((((144 : Int32) * x1) + ((12 : Int32) * x3)) + x2) 576 = true then f_RM_count 56 x1 y (mput τ 79 ((((144 : Int32) * x1) + ((12 : Int32) * x3)) + x2).toNatClampNeg (f_RM_clipped 56 w τ) 56 38) (mput τ 79 ((((144 : Int32) * x1) + ((12 : Int32) * x3)) + x2).toNatClampNeg (f_RM_clipped 56 w τ)) else none
def R_k7 (x1 x2 x3 e : Int32) (τ : Mem) : Option Mem := if τ 56 28 ≤ 0 then (f_RM_foretold 56 x1 x2 x3 τ).bind fun r => (if -(τ 56 54) ≤ r + f_RM_step 56 τ * refE e then (if r + f_RM_step 56 τ * refE e ≤ τ 56 55 + τ 56 54 then R_k8 x1 x2 x3 (refE e) (r + f_RM_step 56 τ * refE e) τ else (f_RM_range 56 τ).bind fun R => R_k8 x1 x2 x3 (refE e) (r + f_RM_step 56 τ * refE e - f_RM_step 56 τ * R) τ) else (f_RM_range 56 τ).bind fun R => R_k8 x1 x2 x3 (refE e) (r + f_RM_step 56 τ * refE e + f_RM_step 56 τ * R) τ) else some τ
def R_k5 (x1 x2 x3 r qa : Int32) (t : Mem) : Option Mem := if t 56 28 ≤ 0 then (if (20 : Int32) ≤ qa then (f_RM_hearBits 56 9 t).bind fun u => R_k7 x1 x2 x3 u.1 u.2 else (f_RM_hearBits 56 r t).bind fun u => R_k7 x1 x2 x3 ((qa <<< (r &&& 31)) + u.1) u.2) else some t
set_option maxRecDepth 100000 in
set_option maxHeartbeats 4000000 in
theorem rm_hearSample {x1 x2 x3 : Int32} {τ : Mem} : f_RM_hearSample 56 x1 x2 x3 τ = (f_RM_lengthOf 56 x1 τ).bind fun r => (L_RM_hearSample_10 56 x1 x2 x3 r 9999 0 τ).bind fun q => if q.2 56 28 = 0 then (if q.1 = 21 then R_k5 x1 x2 x3 r q.1 (f_RM_broken 56 7 (q.2 56 63) q.2).2 else R_k5 x1 x2 x3 r q.1 q.2) else R_k5 x1 x2 x3 r q.1 q.2 := by
  rw [f_RM_hearSample]
  unfold R_k5 R_k7 R_k8 refE
  simp only [lt_eq, wt_0_1, wt_0_2, wt_0_3, wt_0_4, wt_0_5, wt_1_0, wt_1_1, wt_1_2, wt_1_3, wt_1_4, wt_2_0, wl_3, wt_4_0, wl_5, wt_6_0, wl_7, wt_8_0, wl_9, wt_10_0, wt_10_1, wt_10_2, wt_11_0, wl_12, wt_13_0, wl_14, wt_15_0, wl_16, wt_17_0, wl_18, wt_19_0, wl_20, wt_21_0, wt_21_1, wt_21_2, wt_21_3, wt_22_0, wt_22_1, wt_22_2, wt_23_0, wl_24, wt_25_0, wl_26, wt_27_0, wl_28, wt_29_0, wt_30_0, wt_30_1, wt_30_2, wt_30_3, wt_30_4, wt_30_5, wt_31_0, wt_31_1, wt_31_2, wt_31_3, wt_31_4, wt_32_0, wl_33, wt_34_0, wl_35, wt_36_0, wl_37, wt_38_0, wl_39, wt_40_0, wt_40_1, wt_40_2, wt_41_0, wl_42, wt_43_0, wl_44, wt_45_0, wl_46, wt_48_0, wt_48_1, wt_49_0, wt_49_1, wt_49_2, wt_50_0, wl_51, wt_52_0, wl_53, wt_54_0, wl_55, wt_56_6, wt_56_7, wt_56_8, wt_56_13, wt_56_14, wt_56_15, wt_56_16, wt_56_18, wt_56_21, wt_56_22, wt_56_23, wt_56_24, wt_56_25, wt_56_26, wt_56_27, wt_56_44, wt_56_45, wt_56_46, wt_56_47, wt_56_48, wt_56_49, wt_56_50, wt_56_51, wt_56_52, wt_56_53, wl_57, wl_58, wl_59, wl_60, wl_61, wl_62, wl_63, wl_64, wl_65, wl_66, wl_67, wl_68, wl_69, wl_70, wl_71, wl_72, wl_73, wl_74, wl_75, wl_76, wl_77, wl_78, wl_79, wl_80, wl_81, wl_82, bind_id]
set_option maxRecDepth 100000 in
set_option maxHeartbeats 4000000 in
theorem unf_ref {n : Nat} (hn : n < 2 ^ 30) : refE (nI n) = unfE (nI n) := by
  have e1 : nI n &&& 1 = nI (n % 2) := nI_and (r := 1) (by omega) (by decide)
  have e2 : nI n - nI n / 2 * 2 = nI (n % 2) := nI_mod (b := 2) (by omega) (by decide)
  unfold refE unfE
  rw [e1, e2]
set_option maxRecDepth 100000 in
set_option maxHeartbeats 4000000 in
theorem rm_k7 {c x y p ne tp e i : Nat} {τ : Mem} (hc : c < 4) (hi : 144 * c + 12 * y + x = i) (hi5 : i < 576) (h28 : τ 56 28 = 0) (hf : f_RM_foretold 56 (nI c) (nI x) (nI y) τ = some (nI p)) (h54 : τ 56 54 = nI ne) (h55 : τ 56 55 = nI tp) (hne : ne ≤ 3) (htp : tp ≤ 255) (he : e < 2 ^ 30) : ∃ g, g ≤ tp ∧ imax 0 (imin (nI tp) (wrapE (nI p + nI (2 * ne + 1) * unfE (nI e)) (nI tp) (nI ne) (nI (2 * ne + 1)) (nI ((tp + 2 * ne) / (2 * ne + 1) + 1)))) = nI g ∧ R_k7 (nI c) (nI x) (nI y) (nI e) τ = some (mput (mput (mput τ 79 i (nI g)) 80 c (lrS (τ 80 c) (τ 81 c) (τ 56 38) (unfE (nI e)))) 81 c (lrN (τ 81 c) (τ 56 38))) := by
  obtain ⟨g, hg, g1, g2⟩ := clip_eq (tp := tp) (x := wrapE (nI p + nI (2 * ne + 1) * unfE (nI e)) (nI tp) (nI ne) (nI (2 * ne + 1)) (nI ((tp + 2 * ne) / (2 * ne + 1) + 1))) htp
  refine ⟨g, hg, g1, ?_⟩
  have hst : f_RM_step 56 τ = nI (2 * ne + 1) := by rw [f_RM_step, h54, step_n]
  have k8 : ∀ w : Int32, w = wrapE (nI p + nI (2 * ne + 1) * unfE (nI e)) (nI tp) (nI ne) (nI (2 * ne + 1)) (nI ((tp + 2 * ne) / (2 * ne + 1) + 1)) → R_k8 (nI c) (nI x) (nI y) (unfE (nI e)) w τ = some (mput (mput (mput τ 79 i (nI g)) 80 c (lrS (τ 80 c) (τ 81 c) (τ 56 38) (unfE (nI e)))) 81 c (lrN (τ 81 c) (τ 56 38))) := by
    intro w hw
    subst hw
    unfold R_k8
    rw [place_nR, hi, if_pos (inb_nI hi5 (by decide)), nI_clamp (by omega), rm_count hc, f_RM_clipped, h55, g2]
    simp only [mput_cell, Nat.reduceEqDiff, not_false_eq_true]
  unfold R_k7
  rw [if_pos (by rw [h28]; decide), hf, Option.bind_some, unf_ref he, hst, h54, h55, rm_range h54 h55 hne htp, Option.bind_some, Option.bind_some]
  by_cases z1 : -nI ne ≤ nI p + nI (2 * ne + 1) * unfE (nI e)
  · by_cases z2 : nI p + nI (2 * ne + 1) * unfE (nI e) ≤ nI tp + nI ne
    · rw [if_pos z1, if_pos z2]
      exact k8 _ (by unfold wrapE; rw [if_pos z1, if_pos z2])
    · rw [if_pos z1, if_neg z2]
      exact k8 _ (by unfold wrapE; rw [if_pos z1, if_neg z2])
  · rw [if_neg z1]
    exact k8 _ (by unfold wrapE; rw [if_neg z1])
set_option maxRecDepth 100000 in
set_option maxHeartbeats 4000000 in
theorem R_k5_ft {σ0 τ0 σ τ : Mem} {x1 x2 x3 r qa : Int32} (H : FTm σ0 τ0 σ τ) : R_k5 x1 x2 x3 r qa τ = some τ := by
  unfold R_k5
  rw [if_neg H.2.2.2.2.2.2.2]
set_option maxRecDepth 100000 in
set_option maxHeartbeats 4000000 in
theorem R_k7_ft {σ0 τ0 σ τ : Mem} {x1 x2 x3 e : Int32} (H : FTm σ0 τ0 σ τ) : R_k7 x1 x2 x3 e τ = some τ := by
  unfold R_k7
  rw [if_neg H.2.2.2.2.2.2.2]
set_option maxRecDepth 100000 in
set_option maxHeartbeats 4000000 in
theorem r_sample {σ0 τ0 σs τs σ τ : Mem} {m lo cn x cur lf ne tp rs st fr c i y : Nat} {d : Nat → Nat} {T : Nat → Nat → Nat → Prop} (S : BS σ0 τ0 σs τs m d) (HF : RXF σs τs σ τ lo cn) (Hb : RXb σ τ m x cur lf) (Hm : RXm σ τ ne tp rs st fr T) (hrs : τs 56 38 = nI rs) (hne : ne ≤ 3) (htp : tp ≤ 255) (hc1 : lo ≤ c) (hc2 : c < lo + cn) (hc : c < 4) (hi : i < 12) (hy : y < 12) (hfr : fr ≤ y)
    (hu : ¬ y = fr → T c i (y - 1)) (hl : ¬ i = 0 → T c (i - 1) y) (hul : ¬ y = fr → ¬ i = 0 → T c (i - 1) (y - 1)) :
    Both (c_samp (nI c) (nI i) (nI y) (if y = fr then 1 else 0) σ) (f_RM_hearSample 56 (nI c) (nI i) (nI y) τ) (fun a q => (∃ x1 cur1 lf1, RXF σs τs a q lo cn ∧ RXb a q m x1 cur1 lf1 ∧ x ≤ x1 ∧ RXm a q ne tp rs st fr (fun c1 i1 y1 => T c1 i1 y1 ∨ (c1 = c ∧ i1 = i ∧ y1 = y))) ∨ FTm σ0 τ0 a q) := by
  obtain ⟨⟨m3, m4, m5, m6, m7, m8⟩, ⟨t54, t55, t56⟩, hE, hT⟩ := id Hm
  have hpos : 144 * c + 12 * y + i < 576 := by omega
  obtain ⟨r, hr, er1, er2⟩ := m_shift (k0 := 49) (σ := σ) (τ := τ) hc (by rw [wt_49_1, ro_get (k := 50) wt_50_0 wl_51 hc (by decide), (hE c hc).1]) (by rw [wt_49_2, ro_get (k := 52) wt_52_0 wl_53 hc (by decide), (hE c hc).2])
  have Tl_of : ∀ (t : Mem), t 79 = τ 79 → ∀ c1 x1 y1, T c1 x1 y1 → Tl 33 σ t (144 * c1 + 12 * y1 + x1) := by
    intro t ht c1 x1 y1 h1
    obtain ⟨v, hv, v1, v2⟩ := hT c1 x1 y1 h1
    exact ⟨v, by omega, v1, by rw [ht]; exact v2⟩
  have fore : ∀ t : Mem, t 79 = τ 79 → t 56 56 = nI fr → ∃ p, p ≤ 255 ∧ f_MD_foretell 49 (nI c) (nI i) (nI y) (if y = fr then 1 else 0) σ = nI p ∧ f_RM_foretold 56 (nI c) (nI i) (nI y) t = some (nI p) := fun t h1 h2 => m_foretell (k0 := 49) (q := 32) (ra := 33) wt_49_0 wt_32_0 wl_33 hc hi hy h2 hfr (fun z => Tl_of t h1 _ _ _ (hu z)) (fun z => Tl_of t h1 _ _ _ (hl z)) (fun z1 z2 => Tl_of t h1 _ _ _ (hul z1 z2))
  unfold c_samp
  rw [er1, Option.bind_some, rm_hearSample, er2, Option.bind_some]
  obtain ⟨a, q, ea, eq, h9⟩ := r_zeros (b1 := nI r) (p1 := nI c) (p2 := nI i) (p3 := nI y) (p4 := nI r) S HF Hb
  rw [eq, Option.bind_some, f_BO_code, ea, Option.bind_some]
  have ft_end : ∀ (s t : Mem) (e : Int32), FTm σ0 τ0 s t → Both (some (f_MD_untell 49 (nI c) (f_LF_placeOf (nI c) (nI i) (nI y) s) (f_MD_foretell 49 (nI c) (nI i) (nI y) (if y = fr then 1 else 0) σ) e s)) (some t) (fun a q => (∃ x1 cur1 lf1, RXF σs τs a q lo cn ∧ RXb a q m x1 cur1 lf1 ∧ x ≤ x1 ∧ RXm a q ne tp rs st fr (fun c1 i1 y1 => T c1 i1 y1 ∨ (c1 = c ∧ i1 = i ∧ y1 = y))) ∨ FTm σ0 τ0 a q) := by
    intro s t e hft
    rw [place_nI]
    exact both_ret (Or.inr (hft.cls fun k hk => untell_fr hc hpos hk))
  rcases h9 with ⟨j, x1, cur1, lf1, h1, h2, h3, h4, h5, h5x, h6⟩ | ⟨h1, h2⟩
  · have HF1 := h4.rxf HF
    obtain ⟨F1, Z1, hss1⟩ := HF1.fr S
    rw [h2, h3]
    by_cases z21 : j = 21
    · subst z21
      obtain ⟨k1, k2⟩ := h6 (by omega)
      obtain ⟨s7, u7, es7, et7, f7⟩ := ft_meet (f := 7) (p := nI (x1 - 1)) F1 Z1 hss1 (by decide)
      rw [if_neg (show ¬ nI 21 ≤ 20 by decide), wt_48_1, h5.1.1, down_1 k2, es7, Z1.2.2.1, if_pos rfl, if_pos (show nI 21 = 21 from rfl), k1, et7, R_k5_ft f7]
      exact ft_end _ _ _ f7
    · have ln : ¬ nI j = 21 := fun z => z21 (nI_inj (b := 21) (by omega) (by decide) z)
      rw [if_pos (show nI j ≤ 20 from nI_le (b := 20) (by omega) (by decide)), Z1.2.2.1, if_pos rfl, if_neg ln]
      have fin : ∀ (v x2 cur2 lf2 e : Nat) (s t : Mem), KB a.2 q.2 s t → RXb s t m x2 cur2 lf2 → x1 ≤ x2 → e < 2 ^ 30 → Both (some (f_MD_untell 49 (nI c) (f_LF_placeOf (nI c) (nI i) (nI y) s) (f_MD_foretell 49 (nI c) (nI i) (nI y) (if y = fr then 1 else 0) σ) (nI e) s)) (R_k7 (nI c) (nI i) (nI y) (nI e) t) (fun a q => (∃ x1 cur1 lf1, RXF σs τs a q lo cn ∧ RXb a q m x1 cur1 lf1 ∧ x ≤ x1 ∧ RXm a q ne tp rs st fr (fun c1 i1 y1 => T c1 i1 y1 ∨ (c1 = c ∧ i1 = i ∧ y1 = y))) ∨ FTm σ0 τ0 a q) := by
        intro v x2 cur2 lf2 e s t hK hB2 hx2 he
        have K2 := h4.trans hK
        have HF2 := K2.rxf HF
        have Hm2 := K2.rxm Hm
        obtain ⟨F2, Z2, hss2⟩ := HF2.fr S
        obtain ⟨⟨n3, n4, n5, n6, n7, n8⟩, ⟨u54, u55, u56⟩, hE2, hT2⟩ := id Hm2
        obtain ⟨p, hp, ep1, ep2⟩ := fore t (K2.2.1 79 (by decide)) u56
        obtain ⟨g, hg, g1, g2⟩ := rm_k7 (x := i) (y := y) (p := p) (e := e) hc rfl hpos Z2.2.2.1 ep2 u54 u55 hne htp he
        have t38 : t 56 38 = nI rs := by rw [HF2.2.2.2.2.1 38 (by omega), hrs]
        rw [g2, place_nI, ep1, m_untell hc hpos, n3, n4, n5, n6, n7, g1, t38, (hE2 c hc).1, (hE2 c hc).2]
        refine both_ret (Or.inl ⟨x2, cur2, lf2, ?_, ?_, by omega, ?_⟩)
        · obtain ⟨i1, i2, i3, i4, i5, i6⟩ := HF2
          refine ⟨fun k hk => by rw [mput_cell (by omega), mput_cell (by omega), mput_cell (by omega), i1 k hk], fun j hj => by rw [mput_cell (by decide), mput_cell (by decide), mput_cell (by decide), i2 j hj], fun z hz => ?_, fun k hk => by rw [mput_cell (by omega), mput_cell (by omega), mput_cell (by omega), i4 k hk], fun j hj => by rw [mput_cell (by decide), mput_cell (by decide), mput_cell (by decide), i5 j hj], ?_⟩
          · rw [mput_cell (by decide), mput_cell (by decide), mput_slot (by omega), i3 z hz]
          · simp only [mput_cell, Nat.reduceEqDiff, not_false_eq_true]
            exact i6
        · unfold RXb at hB2 ⊢
          rw [mput_cell (show ¬ 48 = 53 by decide), mput_cell (show ¬ 48 = 51 by decide), mput_cell (show ¬ 48 = 33 by decide), mput_cell (show ¬ 56 = 81 by decide), mput_cell (show ¬ 56 = 80 by decide), mput_cell (show ¬ 56 = 79 by decide)]
          exact hB2
        · unfold RXm
          simp only [mput_row, mput_cell, Nat.reduceEqDiff, not_false_eq_true]
          refine ⟨⟨n3, n4, n5, n6, n7, n8⟩, ⟨u54, u55, u56⟩, ?_, ?_⟩
          · intro k hk
            unfold upd
            by_cases z : k = c
            · simp [z]
            · simp only [z, if_false]
              exact hE2 k hk
          · intro c1 i1 y1 hT1
            by_cases z : 144 * c1 + 12 * y1 + i1 = 144 * c + 12 * y + i
            · rw [z]
              exact ⟨g, hg, by simp [upd], by simp [upd]⟩
            · rcases hT1 with hT1 | ⟨rfl, rfl, rfl⟩
              · obtain ⟨v, hv, v1, v2⟩ := hT2 c1 i1 y1 hT1
                exact ⟨v, hv, by simp only [upd, z, if_false]; exact v1, by simp only [upd, z, if_false]; exact v2⟩
              · exact absurd rfl z
      unfold R_k5
      rw [if_pos (show q.2 56 28 ≤ 0 by rw [Z1.2.2.1]; decide)]
      by_cases z20 : j = 20
      · subst z20
        rw [if_pos (show nI 20 = 20 from rfl), if_pos (show (20 : Int32) ≤ nI 20 by decide)]
        obtain ⟨b2, w2, eb, ew, h7⟩ := r_bits (k := 9) S HF1 h5 (by omega)
        rw [show (9 : Int32) = nI 9 from rfl, eb, ew, Option.bind_some, Option.bind_some, Option.bind_some]
        rcases h7 with ⟨v, x2, cur2, lf2, i1, i2, i3, i4, i5, i6⟩ | h7
        · rw [i2, i3]
          exact fin v x2 cur2 lf2 v _ _ i4 i5 i6 (Nat.lt_of_lt_of_le i1 (by decide))
        · rw [R_k7_ft h7]
          exact ft_end _ _ _ h7
      · have l20 : ¬ nI j = 20 := fun z => z20 (nI_inj (b := 20) (by omega) (by decide) z)
        rw [if_neg l20, if_neg (show ¬ (20 : Int32) ≤ nI j from nI_ge (b := 20) (by omega) (by decide))]
        obtain ⟨b2, w2, eb, ew, h7⟩ := r_bits (k := r) S HF1 h5 hr
        rw [eb, ew, Option.bind_some, Option.bind_some, Option.bind_some]
        rcases h7 with ⟨v, x2, cur2, lf2, i1, i2, i3, i4, i5, i6⟩ | h7
        · have hp12 : 2 ^ r ≤ 4096 := Nat.pow_le_pow_right (n := 2) (by decide) hr
          have hjr : j * 2 ^ r ≤ 20 * 4096 := Nat.mul_le_mul (by omega) hp12
          rw [i2, i3, nI_shl (by omega) (by omega), nI_add]
          exact fin v x2 cur2 lf2 (j * 2 ^ r + v) _ _ i4 i5 i6 (by omega)
        · rw [R_k7_ft h7]
          exact ft_end _ _ _ h7
  · rw [h1, if_neg (show ¬ nI 21 ≤ 20 by decide), if_neg (show ¬ q.2 56 28 = 0 by rw [← h2.2.1]; exact h2.2.2.1), R_k5_ft h2, wt_48_1]
    have em : f_FA_meet 47 7 (a.2 48 2 - 1) a.2 = a.2 := by
      rw [f_FA_meet, if_neg h2.2.2.1]
    rw [em]
    exact ft_end _ _ _ h2
