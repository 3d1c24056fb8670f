/-! one sample, told or heard: what the class's model and the reference have in common -/
set_option maxRecDepth 100000 in
set_option maxHeartbeats 4000000 in
theorem nI_cl {c n : Nat} (h : c < n) (hn : n ≤ 9000) : (nI c).toNatClampNeg = c := nI_clamp (by omega)
set_option maxRecDepth 100000 in
set_option maxHeartbeats 4000000 in
theorem m_shift {k0 c : Nat} {σ τ : Mem} (hc : c < 4) (h1 : f_RO_get (wtg k0 1) (nI c) σ = τ 80 c) (h2 : f_RO_get (wtg k0 2) (nI c) σ = τ 81 c) : ∃ r : Nat, r ≤ 12 ∧ f_MD_shift k0 (nI c) σ = some (nI r) ∧ f_RM_lengthOf 56 (nI c) τ = some (nI r) := by
  obtain ⟨a, b, ea, eb, r, hr, e1, e2⟩ : Both (L_MD_shift_21 k0 (nI c) (τ 80 c) (τ 81 c) σ 9999 0) (L_RM_lengthOf_2 56 (nI c) τ 9999 0) (fun a b => ∃ r : Nat, r ≤ 12 ∧ a = nI r ∧ b = nI r) := by
    refine loopB (C := fun f j (_ : Unit) => L_MD_shift_21 k0 (nI c) (τ 80 c) (τ 81 c) σ f (nI j)) (R := fun f j (_ : Unit) => L_RM_lengthOf_2 56 (nI c) τ f (nI j)) (P := fun _ _ _ => True) (hi := 12) ?_ ?_ 12 9999 9999 0 () () (by omega) (by omega) (by omega) trivial
    · intro _ _ _ f g
      refine ⟨nI 12, nI 12, ?_, ?_, 12, by omega, rfl, rfl⟩
      · show L_MD_shift_21 k0 (nI c) (τ 80 c) (τ 81 c) σ (f + 1) (nI 12) = _
        rw [L_MD_shift_21, if_pos (by decide)]
      · show L_RM_lengthOf_2 56 (nI c) τ (g + 1) (nI 12) = _
        rw [L_RM_lengthOf_2, if_pos (by decide)]
    · intro j _ _ hj _
      have l12 : ¬ (12 : Int32) ≤ nI j := nI_ge (b := 12) hj (by decide)
      by_cases hq : τ 80 c ≤ τ 81 c <<< (nI j &&& 31)
      · right
        intro f g
        refine ⟨nI j, nI j, ?_, ?_, j, by omega, rfl, rfl⟩
        · show L_MD_shift_21 k0 (nI c) (τ 80 c) (τ 81 c) σ (f + 1) (nI j) = _
          rw [L_MD_shift_21, if_neg l12, if_pos hq]
        · show L_RM_lengthOf_2 56 (nI c) τ (g + 1) (nI j) = _
          rw [L_RM_lengthOf_2, if_neg l12]
          simp only [wt_0_1, wt_0_2, wt_0_3, wt_0_4, wt_0_5, wt_1_0, wt_1_1, wt_1_2, wt_1_3, wt_1_4, wt_2_0, wl_3, wt_4_0, wl_5, wt_6_0, wl_7, wt_8_0, wl_9, wt_10_0, wt_10_1, wt_10_2, wt_11_0, wl_12, wt_13_0, wl_14, wt_15_0, wl_16, wt_17_0, wl_18, wt_19_0, wl_20, wt_21_0, wt_21_1, wt_21_2, wt_21_3, wt_22_0, wt_22_1, wt_22_2, wt_23_0, wl_24, wt_25_0, wl_26, wt_27_0, wl_28, wt_29_0, wt_30_0, wt_30_1, wt_30_2, wt_30_3, wt_30_4, wt_30_5, wt_31_0, wt_31_1, wt_31_2, wt_31_3, wt_31_4, wt_32_0, wl_33, wt_34_0, wl_35, wt_36_0, wl_37, wt_38_0, wl_39, wt_40_0, wt_40_1, wt_40_2, wt_41_0, wl_42, wt_43_0, wl_44, wt_45_0, wl_46, wt_48_0, wt_48_1, wt_49_0, wt_49_1, wt_49_2, wt_50_0, wl_51, wt_52_0, wl_53, wt_54_0, wl_55, wt_56_6, wt_56_7, wt_56_8, wt_56_13, wt_56_14, wt_56_15, wt_56_16, wt_56_18, wt_56_21, wt_56_22, wt_56_23, wt_56_24, wt_56_25, wt_56_26, wt_56_27, wt_56_44, wt_56_45, wt_56_46, wt_56_47, wt_56_48, wt_56_49, wt_56_50, wt_56_51, wt_56_52, wt_56_53, wl_57, wl_58, wl_59, wl_60, wl_61, wl_62, wl_63, wl_64, wl_65, wl_66, wl_67, wl_68, wl_69, wl_70, wl_71, wl_72, wl_73, wl_74, wl_75, wl_76, wl_77, wl_78, wl_79, wl_80, wl_81, wl_82]
          rw [if_pos (inb_nI hc (by decide)), if_pos (inb_nI hc (by decide)), nI_cl hc (by decide), if_pos hq]
      · left
        refine ⟨(), (), fun f => ?_, fun f => ?_, trivial⟩
        · show L_MD_shift_21 k0 (nI c) (τ 80 c) (τ 81 c) σ (f + 1) (nI j) = _
          rw [L_MD_shift_21, if_neg l12, if_neg hq, nI_1]
        · show L_RM_lengthOf_2 56 (nI c) τ (f + 1) (nI j) = _
          rw [L_RM_lengthOf_2, if_neg l12]
          simp only [wt_0_1, wt_0_2, wt_0_3, wt_0_4, wt_0_5, wt_1_0, wt_1_1, wt_1_2, wt_1_3, wt_1_4, wt_2_0, wl_3, wt_4_0, wl_5, wt_6_0, wl_7, wt_8_0, wl_9, wt_10_0, wt_10_1, wt_10_2, wt_11_0, wl_12, wt_13_0, wl_14, wt_15_0, wl_16, wt_17_0, wl_18, wt_19_0, wl_20, wt_21_0, wt_21_1, wt_21_2, wt_21_3, wt_22_0, wt_22_1, wt_22_2, wt_23_0, wl_24, wt_25_0, wl_26, wt_27_0, wl_28, wt_29_0, wt_30_0, wt_30_1, wt_30_2, wt_30_3, wt_30_4, wt_30_5, wt_31_0, wt_31_1, wt_31_2, wt_31_3, wt_31_4, wt_32_0, wl_33, wt_34_0, wl_35, wt_36_0, wl_37, wt_38_0, wl_39, wt_40_0, wt_40_1, wt_40_2, wt_41_0, wl_42, wt_43_0, wl_44, wt_45_0, wl_46, wt_48_0, wt_48_1, wt_49_0, wt_49_1, wt_49_2, wt_50_0, wl_51, wt_52_0, wl_53, wt_54_0, wl_55, wt_56_6, wt_56_7, wt_56_8, wt_56_13, wt_56_14, wt_56_15, wt_56_16, wt_56_18, wt_56_21, wt_56_22, wt_56_23, wt_56_24, wt_56_25, wt_56_26, wt_56_27, wt_56_44, wt_56_45, wt_56_46, wt_56_47, wt_56_48, wt_56_49, wt_56_50, wt_56_51, wt_56_52, wt_56_53, wl_57, wl_58, wl_59, wl_60, wl_61, wl_62, wl_63, wl_64, wl_65, wl_66, wl_67, wl_68, wl_69, wl_70, wl_71, wl_72, wl_73, wl_74, wl_75, wl_76, wl_77, wl_78, wl_79, wl_80, wl_81, wl_82]
          rw [if_pos (inb_nI hc (by decide)), if_pos (inb_nI hc (by decide)), nI_cl hc (by decide), if_neg hq, nI_1]
  exact ⟨r, hr, by rw [f_MD_shift, h1, h2, ea, e1]; rfl, by rw [f_RM_lengthOf, eb, e2]; rfl⟩
set_option maxRecDepth 100000 in
set_option maxHeartbeats 4000000 in
theorem imax_n {a b : Nat} (ha : a ≤ 255) (hb : b ≤ 255) : imax (nI a) (nI b) = nI (max a b) ∧ imin (nI a) (nI b) = nI (min a b) ∧ (if nI b ≤ nI a then nI a else nI b) = nI (max a b) ∧ (if nI b ≤ nI a then nI b else nI a) = nI (min a b) := by
  unfold imax imin
  rcases Nat.lt_trichotomy a b with h | h | h
  · rw [if_pos (nI_lt h (by omega)), if_neg (Int32.not_lt.mpr (nI_le (by omega) (by omega))), if_neg (nI_ge h (by omega)), if_neg (nI_ge h (by omega)), Nat.max_eq_right (by omega), Nat.min_eq_left (by omega)]
    exact ⟨rfl, rfl, rfl, rfl⟩
  · subst h
    rw [Nat.max_self, Nat.min_self]
    refine ⟨?_, ?_, ?_, ?_⟩ <;> split <;> rfl
  · rw [if_neg (Int32.not_lt.mpr (nI_le (by omega) (by omega))), if_pos (nI_lt h (by omega)), if_pos (nI_le (by omega) (by omega)), if_pos (nI_le (by omega) (by omega)), Nat.max_eq_left (by omega), Nat.min_eq_right (by omega)]
    exact ⟨rfl, rfl, rfl, rfl⟩
set_option maxRecDepth 100000 in
set_option maxHeartbeats 4000000 in
theorem nI_lti {a b : Nat} (ha : a < 2 ^ 31) (hb : b < 2 ^ 31) : nI a < nI b ↔ a < b := by
  constructor
  · intro h
    by_cases z : a < b
    · exact z
    · exact absurd h (Int32.not_lt.mpr (nI_le (by omega) ha))
  · intro h
    exact nI_lt h hb
/-- the foretelling of the reference, of what stands above, before, and above and before -/
def md (a b c : Int32) : Int32 := if c < (if a ≤ b then b else a) then (if (if a ≤ b then a else b) < c then ((b + a) - c) else (if a ≤ b then b else a)) else (if a ≤ b then a else b)
set_option maxRecDepth 100000 in
set_option maxHeartbeats 4000000 in
theorem rm_foretold {x1 x2 x3 v1 : Int32} {τ : Mem} (hv : (((144 : Int32) * x1) + ((12 : Int32) * x3)) + x2 = v1) : f_RM_foretold 56 x1 x2 x3 τ = (if x3 = τ 56 56 then some 0 else if inb (v1 - 12) 576 = true then some (τ 79 (v1 - 12).toNatClampNeg) else none).bind fun a => (if x2 = 0 then some a else if inb (v1 - 1) 576 = true then some (τ 79 (v1 - 1).toNatClampNeg) else none).bind fun b => (if x2 = 0 then some a else if x3 = τ 56 56 then some 0 else if inb (v1 - 12 - 1) 576 = true then some (τ 79 (v1 - 12 - 1).toNatClampNeg) else none).bind fun c => some (md a b c) := by
  rw [f_RM_foretold, hv]
  simp only [lt_eq, wt_0_1, wt_0_2, wt_0_3, wt_0_4, wt_0_5, wt_1_0, wt_1_1, wt_1_2, wt_1_3, wt_1_4, wt_2_0, wl_3, wt_4_0, wl_5, wt_6_0, wl_7, wt_8_0, wl_9, wt_10_0, wt_10_1, wt_10_2, wt_11_0, wl_12, wt_13_0, wl_14, wt_15_0, wl_16, wt_17_0, wl_18, wt_19_0, wl_20, wt_21_0, wt_21_1, wt_21_2, wt_21_3, wt_22_0, wt_22_1, wt_22_2, wt_23_0, wl_24, wt_25_0, wl_26, wt_27_0, wl_28, wt_29_0, wt_30_0, wt_30_1, wt_30_2, wt_30_3, wt_30_4, wt_30_5, wt_31_0, wt_31_1, wt_31_2, wt_31_3, wt_31_4, wt_32_0, wl_33, wt_34_0, wl_35, wt_36_0, wl_37, wt_38_0, wl_39, wt_40_0, wt_40_1, wt_40_2, wt_41_0, wl_42, wt_43_0, wl_44, wt_45_0, wl_46, wt_48_0, wt_48_1, wt_49_0, wt_49_1, wt_49_2, wt_50_0, wl_51, wt_52_0, wl_53, wt_54_0, wl_55, wt_56_6, wt_56_7, wt_56_8, wt_56_13, wt_56_14, wt_56_15, wt_56_16, wt_56_18, wt_56_21, wt_56_22, wt_56_23, wt_56_24, wt_56_25, wt_56_26, wt_56_27, wt_56_44, wt_56_45, wt_56_46, wt_56_47, wt_56_48, wt_56_49, wt_56_50, wt_56_51, wt_56_52, wt_56_53, wl_57, wl_58, wl_59, wl_60, wl_61, wl_62, wl_63, wl_64, wl_65, wl_66, wl_67, wl_68, wl_69, wl_70, wl_71, wl_72, wl_73, wl_74, wl_75, wl_76, wl_77, wl_78, wl_79, wl_80, wl_81, wl_82, md]
  by_cases h1 : x2 = 0 <;> by_cases h2 : x3 = τ 56 56 <;> by_cases h3 : inb (v1 - 12) 576 = true <;> by_cases h4 : inb (v1 - 1) 576 = true <;> by_cases h5 : inb (v1 - 12 - 1) 576 = true <;> simp only [h1, h2, h3, h4, h5, if_true, if_false, Option.bind_some, Option.bind_none, Bool.false_eq_true]
/-- told alike at one place -/
def Tl (ra : Nat) (σ τ : Mem) (i : Nat) : Prop := ∃ v, v ≤ 255 ∧ σ ra i = nI v ∧ τ 79 i = nI v
set_option maxRecDepth 100000 in
set_option maxHeartbeats 4000000 in
theorem m_foretell {k0 q ra c x y fr : Nat} {σ τ : Mem} (hq : wtg k0 0 = q) (hr : wtg q 0 = ra) (hn : wln ra = 576) (hc : c < 4) (hx : x < 12) (hy : y < 12) (hf : τ 56 56 = nI fr) (hfr : fr ≤ y)
    (hu : ¬ y = fr → Tl ra σ τ (144 * c + 12 * (y - 1) + x)) (hl : ¬ x = 0 → Tl ra σ τ (144 * c + 12 * y + (x - 1))) (hul : ¬ y = fr → ¬ x = 0 → Tl ra σ τ (144 * c + 12 * (y - 1) + (x - 1))) :
    ∃ p, p ≤ 255 ∧ f_MD_foretell k0 (nI c) (nI x) (nI y) (if y = fr then 1 else 0) σ = nI p ∧ f_RM_foretold 56 (nI c) (nI x) (nI y) τ = some (nI p) := by
  have e1 : ¬ y = fr → nI (144 * c + 12 * y + x) - 12 = nI (144 * c + 12 * (y - 1) + x) := by
    intro h
    rw [show (12 : Int32) = nI 12 from rfl, nI_sub (by omega)]
    congr 1; omega
  have e2 : ¬ x = 0 → nI (144 * c + 12 * y + x) - 1 = nI (144 * c + 12 * y + (x - 1)) := by
    intro h
    rw [show (1 : Int32) = nI 1 from rfl, nI_sub (by omega)]
    congr 1; omega
  have e3 : ¬ y = fr → ¬ x = 0 → nI (144 * c + 12 * (y - 1) + x) - 1 = nI (144 * c + 12 * (y - 1) + (x - 1)) := by
    intro h1 h
    rw [show (1 : Int32) = nI 1 from rfl, nI_sub (by omega)]
    congr 1; omega
  have rg : ∀ i, i < 576 → f_RO_get (wtg k0 0) (nI i) σ = σ ra i := by
    intro i hi
    rw [hq, ro_get hr hn hi (by decide)]
  have hxy : nI y = nI fr ↔ y = fr := nI_eq (by omega) (by omega)
  obtain ⟨up, hup, eu, et⟩ : ∃ up : Nat, up ≤ 255 ∧ (if (if y = fr then (1 : Int32) else 0) = 0 then f_RO_get (wtg k0 0) (nI (144 * c + 12 * y + x) - 12) σ else 0) = nI up ∧ ((if nI y = nI fr then some (0 : Int32) else if inb (nI (144 * c + 12 * y + x) - 12) 576 = true then some (τ 79 (nI (144 * c + 12 * y + x) - 12).toNatClampNeg) else none) = some (nI up)) := by
    by_cases h : y = fr
    · exact ⟨0, by omega, by rw [if_pos h, if_neg (by decide)]; rfl, by rw [if_pos (hxy.mpr h)]; rfl⟩
    · obtain ⟨v, hv, v1, v2⟩ := hu h
      refine ⟨v, hv, by rw [if_neg h, if_pos rfl, e1 h, rg _ (by omega), v1], ?_⟩
      rw [if_neg (fun z => h (hxy.mp z)), e1 h, if_pos (inb_nI (by omega) (by decide)), nI_cl (n := 576) (by omega) (by decide), v2]
  by_cases hx0 : x = 0
  · subst hx0
    refine ⟨up, hup, ?_, ?_⟩
    · rw [f_MD_foretell, place_nI, lt_eq, eu, if_pos (show nI 0 = 0 from rfl)]
    · rw [rm_foretold place_nR, hf, et]
      simp only [Option.bind_some, show nI 0 = 0 from rfl, if_true, md]
      simp
  · have hx1 : ¬ nI x = 0 := nI_ne0 (by omega) (by omega)
    obtain ⟨lf, hlf, l1, l2⟩ := hl hx0
    obtain ⟨ul, hul1, eul, etl⟩ : ∃ ul : Nat, ul ≤ 255 ∧ (if (if y = fr then (1 : Int32) else 0) = 0 then f_RO_get (wtg k0 0) (nI (144 * c + 12 * y + x) - 12 - 1) σ else 0) = nI ul ∧ ((if nI y = nI fr then some (0 : Int32) else if inb (nI (144 * c + 12 * y + x) - 12 - 1) 576 = true then some (τ 79 (nI (144 * c + 12 * y + x) - 12 - 1).toNatClampNeg) else none) = some (nI ul)) := by
      by_cases h : y = fr
      · exact ⟨0, by omega, by rw [if_pos h, if_neg (by decide)]; rfl, by rw [if_pos (hxy.mpr h)]; rfl⟩
      · obtain ⟨v, hv, v1, v2⟩ := hul h hx0
        refine ⟨v, hv, by rw [if_neg h, if_pos rfl, e1 h, e3 h hx0, rg _ (by omega), v1], ?_⟩
        rw [if_neg (fun z => h (hxy.mp z)), e1 h, e3 h hx0, if_pos (inb_nI (by omega) (by decide)), nI_cl (n := 576) (by omega) (by decide), v2]
    obtain ⟨m1, m2, m3, m4⟩ := imax_n hlf hup
    have hF : f_MD_foretell k0 (nI c) (nI x) (nI y) (if y = fr then 1 else 0) σ = if nI ul < nI (max lf up) then (if nI (min lf up) < nI ul then nI lf + nI up - nI ul else nI (max lf up)) else nI (min lf up) := by
      rw [f_MD_foretell, place_nI, lt_eq, eu, if_neg hx1, lt_eq, lt_eq, eul, e2 hx0, rg _ (by omega), l1, m1, m2]
    have hR : f_RM_foretold 56 (nI c) (nI x) (nI y) τ = some (if nI ul < nI (max lf up) then (if nI (min lf up) < nI ul then nI lf + nI up - nI ul else nI (max lf up)) else nI (min lf up)) := by
      rw [rm_foretold place_nR, hf, et, Option.bind_some, if_neg hx1, if_neg hx1, etl, e2 hx0, if_pos (inb_nI (by omega) (by decide)), nI_cl (n := 576) (by omega) (by decide), l2, Option.bind_some, Option.bind_some, md, m3, m4]
    rw [hF, hR]
    by_cases h1 : ul < max lf up
    · by_cases h2 : min lf up < ul
      · refine ⟨lf + up - ul, by omega, ?_, ?_⟩
        · rw [if_pos (nI_lt h1 (by omega)), if_pos (nI_lt h2 (by omega)), nI_add, nI_sub (by omega)]
        · rw [if_pos (nI_lt h1 (by omega)), if_pos (nI_lt h2 (by omega)), nI_add, nI_sub (by omega)]
      · refine ⟨max lf up, by omega, ?_, ?_⟩
        · rw [if_pos (nI_lt h1 (by omega)), if_neg (fun z => h2 ((nI_lti (by omega) (by omega)).mp z))]
        · rw [if_pos (nI_lt h1 (by omega)), if_neg (fun z => h2 ((nI_lti (by omega) (by omega)).mp z))]
    · refine ⟨min lf up, by omega, ?_, ?_⟩
      · rw [if_neg (fun z => h1 ((nI_lti (by omega) (by omega)).mp z))]
      · rw [if_neg (fun z => h1 ((nI_lti (by omega) (by omega)).mp z))]
