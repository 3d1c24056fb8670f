/-! writing: the stream's head -/
def WE (fz : Nat) (σ0 τ0 σ τ : Mem) (n : Nat) : Prop := ∃ m, m ≤ n ∧ WS fz σ0 τ0 σ τ m
set_option maxRecDepth 100000 in
set_option maxHeartbeats 4000000 in
theorem WS.we {fz : Nat} {σ0 τ0 σ τ : Mem} {m n : Nat} (H : WS fz σ0 τ0 σ τ m) (h : m ≤ n) : WE fz σ0 τ0 σ τ n := ⟨m, h, H⟩
set_option maxRecDepth 100000 in
set_option maxHeartbeats 4000000 in
theorem WE.mono {fz : Nat} {σ0 τ0 σ τ : Mem} {m n : Nat} (H : WE fz σ0 τ0 σ τ m) (h : m ≤ n) : WE fz σ0 τ0 σ τ n := by
  obtain ⟨k, h1, h2⟩ := H
  exact ⟨k, by omega, h2⟩
set_option maxRecDepth 100000 in
set_option maxHeartbeats 4000000 in
theorem w_noteBytes {fz : Nat} {σ0 τ0 σ τ : Mem} {w h b c nn rs st rt n k z : Nat} {x b3 : Int32} (P : RPic σ0 τ0 w h b c nn rs st rt) (H : WS fz σ0 τ0 σ τ n) (hk : k < 6) (hz : z ≤ 30) (ez : σ0 14 k = nI z) (hn : n + z ≤ 6000) :
    Both (L_SW_addNotes_59 21 10 (nI k) b3 (nI z) 9999 0 σ) (L_RM_write_124 56 x (nI k) 9999 0 τ) (fun a b => WS fz σ0 τ0 a.2 b.2 (n + z)) := by
  have P2 := P.2.2.2.2.2.2.2.2.2.2
  have P3 := P.2.2.2.2.2.2.2.2.2.1
  have ez2 : τ0 61 k = nI z := by rw [← P3.1 k hk]; exact ez
  refine loopB (C := fun f j s => L_SW_addNotes_59 21 10 (nI k) b3 (nI z) f (nI j) s) (R := fun f j t => L_RM_write_124 56 x (nI k) f (nI j) t) (P := fun j s t => WS fz σ0 τ0 s t (n + j)) (hi := z) ?_ ?_ z 9999 9999 0 σ τ (by omega) (by omega) (by omega) H
  · intro s t hs f g
    refine ⟨(nI z, s), (nI z, t), ?_, ?_, hs⟩
    · show L_SW_addNotes_59 21 10 (nI k) b3 (nI z) (f + 1) (nI z) s = _
      rw [L_SW_addNotes_59, if_pos (nI_le (Nat.le_refl _) (by omega))]
    · show L_RM_write_124 56 x (nI k) (g + 1) (nI z) t = _
      rw [L_RM_write_124]
      simp only [wt_0_1, wt_0_2, wt_0_3, wt_0_4, wt_0_5, wt_1_0, wt_1_1, wt_1_2, wt_1_3, wt_1_4, wt_2_0, wl_3, wt_4_0, wl_5, wt_6_0, wl_7, wt_8_0, wl_9, wt_10_0, wt_10_1, wt_10_2, wt_11_0, wl_12, wt_13_0, wl_14, wt_15_0, wl_16, wt_17_0, wl_18, wt_19_0, wl_20, wt_21_0, wt_21_1, wt_21_2, wt_21_3, wt_22_0, wt_22_1, wt_22_2, wt_23_0, wl_24, wt_25_0, wl_26, wt_27_0, wl_28, wt_29_0, wt_30_0, wt_30_1, wt_30_2, wt_30_3, wt_30_4, wt_30_5, wt_31_0, wt_31_1, wt_31_2, wt_31_3, wt_31_4, wt_32_0, wl_33, wt_34_0, wl_35, wt_36_0, wl_37, wt_38_0, wl_39, wt_40_0, wt_40_1, wt_40_2, wt_41_0, wl_42, wt_43_0, wl_44, wt_45_0, wl_46, wt_48_0, wt_48_1, wt_49_0, wt_49_1, wt_49_2, wt_50_0, wl_51, wt_52_0, wl_53, wt_54_0, wl_55, wt_56_6, wt_56_7, wt_56_8, wt_56_13, wt_56_14, wt_56_15, wt_56_16, wt_56_18, wt_56_21, wt_56_22, wt_56_23, wt_56_24, wt_56_25, wt_56_26, wt_56_27, wt_56_44, wt_56_45, wt_56_46, wt_56_47, wt_56_48, wt_56_49, wt_56_50, wt_56_51, wt_56_52, wt_56_53, wl_57, wl_58, wl_59, wl_60, wl_61, wl_62, wl_63, wl_64, wl_65, wl_66, wl_67, wl_68, wl_69, wl_70, wl_71, wl_72, wl_73, wl_74, wl_75, wl_76, wl_77, wl_78, wl_79, wl_80, wl_81, wl_82]
      rw [if_pos (inb_nI hk (by decide)), nI_clamp (by omega), hs.2.1.1 61 (by omega), ez2, if_pos (nI_le (Nat.le_refl _) (by omega))]
  · intro j s t hj hs
    left
    obtain ⟨v, hv, ev⟩ := P2.2 (30 * k + j) (by omega)
    have ev2 : τ0 62 (30 * k + j) = nI v := by rw [← P2.1 _ (by omega)]; exact ev
    refine ⟨mput (mput s 18 (n + j) (nI v)) 17 1 (nI (n + j + 1)), mput (mput t 63 (n + j) (nI v)) 56 17 (nI (n + j + 1)), fun f => ?_, fun f => ?_, hs.lay (by omega) (byt_n hv)⟩
    · show L_SW_addNotes_59 21 10 (nI k) b3 (nI z) (f + 1) (nI j) s = _
      have e1 : f_NO_byteIn 10 (nI k) (nI j) s = nI v := by
        rw [f_NO_byteIn, wt_10_2, show nI k * 30 + nI j = nI (30 * k + j) by rw [show (30 : Int32) = nI 30 from rfl, nI_mul, nI_add]; congr 1; omega, ro_get (k := 15) (a := 16) (n := 180) wt_15_0 wl_16 (by omega) (by decide), hs.1 16 (by omega), ev]
      rw [L_SW_addNotes_59, if_neg (nI_ge hj (by omega)), lt_eq, e1, wt_21_1, w_add hs.2.2.1 (by omega), nI_1]
    · show L_RM_write_124 56 x (nI k) (f + 1) (nI j) t = _
      rw [L_RM_write_124]
      simp only [wt_0_1, wt_0_2, wt_0_3, wt_0_4, wt_0_5, wt_1_0, wt_1_1, wt_1_2, wt_1_3, wt_1_4, wt_2_0, wl_3, wt_4_0, wl_5, wt_6_0, wl_7, wt_8_0, wl_9, wt_10_0, wt_10_1, wt_10_2, wt_11_0, wl_12, wt_13_0, wl_14, wt_15_0, wl_16, wt_17_0, wl_18, wt_19_0, wl_20, wt_21_0, wt_21_1, wt_21_2, wt_21_3, wt_22_0, wt_22_1, wt_22_2, wt_23_0, wl_24, wt_25_0, wl_26, wt_27_0, wl_28, wt_29_0, wt_30_0, wt_30_1, wt_30_2, wt_30_3, wt_30_4, wt_30_5, wt_31_0, wt_31_1, wt_31_2, wt_31_3, wt_31_4, wt_32_0, wl_33, wt_34_0, wl_35, wt_36_0, wl_37, wt_38_0, wl_39, wt_40_0, wt_40_1, wt_40_2, wt_41_0, wl_42, wt_43_0, wl_44, wt_45_0, wl_46, wt_48_0, wt_48_1, wt_49_0, wt_49_1, wt_49_2, wt_50_0, wl_51, wt_52_0, wl_53, wt_54_0, wl_55, wt_56_6, wt_56_7, wt_56_8, wt_56_13, wt_56_14, wt_56_15, wt_56_16, wt_56_18, wt_56_21, wt_56_22, wt_56_23, wt_56_24, wt_56_25, wt_56_26, wt_56_27, wt_56_44, wt_56_45, wt_56_46, wt_56_47, wt_56_48, wt_56_49, wt_56_50, wt_56_51, wt_56_52, wt_56_53, wl_57, wl_58, wl_59, wl_60, wl_61, wl_62, wl_63, wl_64, wl_65, wl_66, wl_67, wl_68, wl_69, wl_70, wl_71, wl_72, wl_73, wl_74, wl_75, wl_76, wl_77, wl_78, wl_79, wl_80, wl_81, wl_82]
      rw [if_pos (inb_nI hk (by decide)), nI_clamp (show k < 2 ^ 31 by omega), hs.2.1.1 61 (by omega), ez2, if_neg (nI_ge hj (by omega)), show 30 * nI k + nI j = nI (30 * k + j) by rw [show (30 : Int32) = nI 30 from rfl, nI_mul, nI_add], if_pos (inb_nI (by omega) (by decide)), nI_clamp (show 30 * k + j < 2 ^ 31 by omega), hs.2.1.1 62 (by omega), ev2, rm_lay hs.2.2.2.1 (by omega), Option.bind_some, nI_1]
set_option maxRecDepth 100000 in
set_option maxHeartbeats 4000000 in
theorem w_notes {fz : Nat} {σ0 τ0 σ τ : Mem} {w h b c nn rs st rt n : Nat} {x : Int32} (P : RPic σ0 τ0 w h b c nn rs st rt) (H : WS fz σ0 τ0 σ τ n) (hn : n + 204 ≤ 6000) :
    Both (f_SW_addNotes 21 σ) (L_RM_write_75 56 x 9999 0 τ) (fun a b => WE fz σ0 τ0 a b.2 (n + 204)) := by
  obtain ⟨-, -, ⟨n1, n2, n3, n4⟩, -, -, -, -, -, hk, hs, hby⟩ := id P
  have hb : Both (L_SW_addNotes_10 21 10 9999 0 σ) (L_RM_write_75 56 x 9999 0 τ) (fun a b => WE fz σ0 τ0 a.2 b.2 (n + 34 * nn)) := by
    refine loopB (C := fun f j s => L_SW_addNotes_10 21 10 f (nI j) s) (R := fun f j t => L_RM_write_75 56 x f (nI j) t) (P := fun j s t => WE fz σ0 τ0 s t (n + 34 * j)) (hi := nn) ?_ ?_ nn 9999 9999 0 σ τ (by omega) (by omega) (by omega) (H.we (by omega))
    · rintro s t ⟨m, hm, hs⟩ f g
      refine ⟨(nI nn, s), (nI nn, t), ?_, ?_, m, hm, hs⟩
      · show L_SW_addNotes_10 21 10 (f + 1) (nI nn) s = _
        rw [L_SW_addNotes_10, f_NO_count, hs.1 10 (by omega), n1, if_pos (nI_le (Nat.le_refl _) (by omega))]
      · show L_RM_write_75 56 x (g + 1) (nI nn) t = _
        rw [L_RM_write_75, hs.2.1.2 12 (by omega), n2, if_pos (nI_le (Nat.le_refl _) (by omega))]
    · rintro j s t hj ⟨m, hm, hst⟩
      left
      obtain ⟨kd, hkd, ekd⟩ := hk.2 j (by omega)
      obtain ⟨z, hz, ez⟩ := hs.2 j (by omega)
      have ekd2 : τ0 60 j = nI kd := by rw [← hk.1 j (by omega)]; exact ekd
      have ez2 : τ0 61 j = nI z := by rw [← hs.1 j (by omega)]; exact ez
      have e1 : f_NO_kindOf 10 (nI j) s = nI kd := by
        rw [f_NO_kindOf, wt_10_0, ro_get (k := 11) (a := 12) (n := 6) wt_11_0 wl_12 (by omega) (by decide), hst.1 12 (by omega), ekd]
      have e2 : f_NO_sizeOf 10 (nI j) s = nI z := by
        rw [f_NO_sizeOf, wt_10_1, ro_get (k := 13) (a := 14) (n := 6) wt_13_0 wl_14 (by omega) (by decide), hst.1 14 (by omega), ez]
      have hbx : byt (if nI kd = 16 then 254 else 224 + nI kd) := by
        by_cases e : nI kd = 16
        · rw [if_pos e]
          exact ⟨254, by decide, rfl⟩
        · rw [if_neg e, show (224 : Int32) + nI kd = nI (224 + kd) from nI_add 224 kd]
          exact byt_n (by omega)
      have hb2 : Both (lt (f_SW_segment 21 (if nI kd = 16 then 254 else 224 + nI kd) (2 + nI z) s) fun s1 => L_SW_addNotes_59 21 10 (nI j) (nI kd) (nI z) 9999 0 s1) ((f_RM_mark 56 (if nI kd = 16 then 254 else 224 + nI kd) (2 + nI z) t).bind fun t1 => L_RM_write_124 56 x (nI j) 9999 0 t1) (fun a b => WS fz σ0 τ0 a.2 b.2 (m + 4 + z)) :=
        b_seg hst (by omega) hbx (v := 2 + z) (show (2 : Int32) + nI z = nI (2 + z) from nI_add 2 z) (by omega) (fun s1 t1 h1 => w_noteBytes P h1 (by omega) hz ez (by omega))
      obtain ⟨a, bb, ea, eb, h9⟩ := hb2
      refine ⟨a.2, bb.2, fun f => ?_, fun f => ?_, h9.we (by omega)⟩
      · show L_SW_addNotes_10 21 10 (f + 1) (nI j) s = _
        rw [lt_eq] at ea
        rw [L_SW_addNotes_10, f_NO_count, hst.1 10 (by omega), n1, if_neg (nI_ge hj (by omega)), e1, e2, lt_eq, ea, Option.bind_some, nI_1]
      · show L_RM_write_75 56 x (f + 1) (nI j) t = _
        rw [L_RM_write_75, hst.2.1.2 12 (by omega), n2, if_neg (nI_ge hj (by omega))]
        simp only [wt_0_1, wt_0_2, wt_0_3, wt_0_4, wt_0_5, wt_1_0, wt_1_1, wt_1_2, wt_1_3, wt_1_4, wt_2_0, wl_3, wt_4_0, wl_5, wt_6_0, wl_7, wt_8_0, wl_9, wt_10_0, wt_10_1, wt_10_2, wt_11_0, wl_12, wt_13_0, wl_14, wt_15_0, wl_16, wt_17_0, wl_18, wt_19_0, wl_20, wt_21_0, wt_21_1, wt_21_2, wt_21_3, wt_22_0, wt_22_1, wt_22_2, wt_23_0, wl_24, wt_25_0, wl_26, wt_27_0, wl_28, wt_29_0, wt_30_0, wt_30_1, wt_30_2, wt_30_3, wt_30_4, wt_30_5, wt_31_0, wt_31_1, wt_31_2, wt_31_3, wt_31_4, wt_32_0, wl_33, wt_34_0, wl_35, wt_36_0, wl_37, wt_38_0, wl_39, wt_40_0, wt_40_1, wt_40_2, wt_41_0, wl_42, wt_43_0, wl_44, wt_45_0, wl_46, wt_48_0, wt_48_1, wt_49_0, wt_49_1, wt_49_2, wt_50_0, wl_51, wt_52_0, wl_53, wt_54_0, wl_55, wt_56_6, wt_56_7, wt_56_8, wt_56_13, wt_56_14, wt_56_15, wt_56_16, wt_56_18, wt_56_21, wt_56_22, wt_56_23, wt_56_24, wt_56_25, wt_56_26, wt_56_27, wt_56_44, wt_56_45, wt_56_46, wt_56_47, wt_56_48, wt_56_49, wt_56_50, wt_56_51, wt_56_52, wt_56_53, wl_57, wl_58, wl_59, wl_60, wl_61, wl_62, wl_63, wl_64, wl_65, wl_66, wl_67, wl_68, wl_69, wl_70, wl_71, wl_72, wl_73, wl_74, wl_75, wl_76, wl_77, wl_78, wl_79, wl_80, wl_81, wl_82]
        rw [if_pos (inb_nI (by omega) (by decide)), nI_clamp (show j < 2 ^ 31 by omega), hst.2.1.1 60 (by omega), ekd2, hst.2.1.1 61 (by omega), ez2]
        simp only [lt_eq, inb_nI (show j < 6 by omega) (show 6 < 2 ^ 31 by decide), if_true]
        by_cases e : nI kd = 16
        · rw [if_pos e] at eb ⊢
          rw [← Option.bind_assoc, eb, Option.bind_some, nI_1]
        · rw [if_neg e] at eb ⊢
          rw [← Option.bind_assoc, eb, Option.bind_some, nI_1]
  obtain ⟨a, bb, ea, eb, h9⟩ := hb
  refine ⟨a.2, bb, ?_, eb, h9.mono (by omega)⟩
  rw [f_SW_addNotes, wt_21_0, wt_1_4, ea, Option.bind_some]
set_option maxRecDepth 100000 in
set_option maxHeartbeats 4000000 in
theorem w_parts {fz : Nat} {σ0 τ0 σ τ : Mem} {w h b c nn rs st rt n : Nat} {x : Int32} (P : RPic σ0 τ0 w h b c nn rs st rt) (hc : c ≤ 4) (H : WS fz σ0 τ0 σ τ n) (hn : n + 3 * c ≤ 6000) :
    Both (L_SW_addFrame_77 21 9999 0 σ) (L_RM_write_211 56 x 9999 0 τ) (fun a b => WS fz σ0 τ0 a.2 b.2 (n + 3 * c)) := by
  obtain ⟨⟨s1, s2, s3, s4⟩, ⟨r1, r2, r3, r4⟩, -⟩ := id P
  refine loopB (C := fun f j s => L_SW_addFrame_77 21 f (nI j) s) (R := fun f j t => L_RM_write_211 56 x f (nI j) t) (P := fun j s t => WS fz σ0 τ0 s t (n + 3 * j)) (hi := c) ?_ ?_ c 9999 9999 0 σ τ (by omega) (by omega) (by omega) H
  · intro s t hs f g
    refine ⟨(nI c, s), (nI c, t), ?_, ?_, hs⟩
    · show L_SW_addFrame_77 21 (f + 1) (nI c) s = _
      rw [L_SW_addFrame_77, wt_21_0, hs.1 1 (by omega), s4, if_pos (nI_le (Nat.le_refl _) (by omega))]
    · show L_RM_write_211 56 x (g + 1) (nI c) t = _
      rw [L_RM_write_211, hs.2.1.2 5 (by omega), r4, if_pos (nI_le (Nat.le_refl _) (by omega))]
  · intro j s t hj hs
    left
    have hb : Both (lt (f_BY_add 17 (nI (j + 1)) s) fun s1 => lt (f_BY_add 17 17 s1) fun s2 => lt (f_BY_add 17 0 s2) fun s3 => some s3) ((f_RM_lay 56 (nI (j + 1)) t).bind fun t1 => (f_RM_lay 56 17 t1).bind fun t2 => (f_RM_lay 56 0 t2).bind fun t3 => some t3) (fun a b => WS fz σ0 τ0 a b (n + 3 * j + 1 + 1 + 1)) :=
      b_lay hs (by omega) (byt_n (by omega)) fun s1 t1 h1 => b_lay h1 (by omega) ⟨17, by decide, rfl⟩ fun s2 t2 h2 => b_lay h2 (by omega) ⟨0, by decide, rfl⟩ fun s3 t3 h3 => both_ret h3
    obtain ⟨a, bb, ea, eb, h9⟩ := hb
    refine ⟨a, bb, fun f => ?_, fun f => ?_, h9⟩
    · show L_SW_addFrame_77 21 (f + 1) (nI j) s = _
      rw [lt_eq, lt_eq, lt_eq] at ea
      rw [L_SW_addFrame_77, wt_21_0, wt_21_1, hs.1 1 (by omega), s4, if_neg (nI_ge hj (by omega)), lt_eq, lt_eq, lt_eq, nI_1, Option.some.inj ea]
    · show L_RM_write_211 56 x (f + 1) (nI j) t = _
      rw [L_RM_write_211, hs.2.1.2 5 (by omega), r4, if_neg (nI_ge hj (by omega)), nI_1]
      have e5 : ∀ g : Mem → Option (Int32 × Mem), ((f_RM_lay 56 (nI (j + 1)) t).bind fun t1 => (f_RM_lay 56 17 t1).bind fun t2 => (f_RM_lay 56 0 t2).bind g) = ((f_RM_lay 56 (nI (j + 1)) t).bind fun t1 => (f_RM_lay 56 17 t1).bind fun t2 => (f_RM_lay 56 0 t2).bind fun t3 => some t3).bind g := by
        intro g
        simp only [Option.bind_assoc, Option.bind_some]
      rw [e5, eb, Option.bind_some]
set_option maxRecDepth 100000 in
set_option maxHeartbeats 4000000 in
theorem w_frame {fz : Nat} {σ0 τ0 σ τ : Mem} {w h b c nn rs st rt n : Nat} {x : Int32} (P : RPic σ0 τ0 w h b c nn rs st rt) (hc0 : ¬ c = 0) (H : WS fz σ0 τ0 σ τ n) (hn : n + 22 ≤ 6000) :
    Both (f_SW_addFrame 21 σ) ((f_RM_mark 56 247 (8 + 3 * (τ 56 5)) τ).bind fun t1 => (f_RM_lay 56 (t1 56 4) t1).bind fun t2 => (f_RM_layWide 56 (t2 56 3) t2).bind fun t3 => (f_RM_layWide 56 (t3 56 2) t3).bind fun t4 => (f_RM_lay 56 (t4 56 5) t4).bind fun t5 => L_RM_write_211 56 x 9999 0 t5) (fun a b => WE fz σ0 τ0 a b.2 (n + 22)) := by
  obtain ⟨⟨s1, s2, s3, s4⟩, ⟨r1, r2, r3, r4⟩, -, hd, -⟩ := id P
  have e1 : f_SW_addFrame 21 σ = lt (f_SW_segment 21 247 (8 + 3 * (σ 1 8)) σ) fun s1 => lt (f_BY_add 17 (s1 1 7) s1) fun s2 => lt (f_BY_addWide 17 (s2 1 6) s2) fun s3 => lt (f_BY_addWide 17 (s3 1 5) s3) fun s4 => lt (f_BY_add 17 (s4 1 8) s4) fun s5 => (L_SW_addFrame_77 21 9999 0 s5).bind fun q => some q.2 := by
    rw [f_SW_addFrame, wt_21_0, wt_21_1]
  rw [e1, H.1 1 (by omega), H.2.1.2 5 (by omega), s4, r4]
  have e8 : (8 : Int32) + 3 * nI c = nI (8 + 3 * c) := by rw [show (3 : Int32) = nI 3 from rfl, show (8 : Int32) = nI 8 from rfl, nI_mul, nI_add]
  refine b_seg H (by omega) ⟨247, by decide, rfl⟩ e8 (by omega) (fun a1 b1 h1 => ?_)
  rw [h1.1 1 (by omega), h1.2.1.2 4 (by omega), s3, r3]
  refine b_lay h1 (by omega) (byt_n (by omega)) (fun a2 b2 h2 => ?_)
  rw [h2.1 1 (by omega), h2.2.1.2 3 (by omega), s2, r2]
  refine b_wide h2 (by omega) (by omega) (fun a3 b3 h3 => ?_)
  rw [h3.1 1 (by omega), h3.2.1.2 2 (by omega), s1, r1]
  refine b_wide h3 (by omega) (by omega) (fun a4 b4 h4 => ?_)
  rw [h4.1 1 (by omega), h4.2.1.2 5 (by omega), s4, r4]
  refine b_lay h4 (by omega) (byt_n (by omega)) (fun a5 b5 h5 => ?_)
  obtain ⟨a, bb, ea, eb, h9⟩ := w_parts (x := x) P (by omega) h5 (by omega)
  exact ⟨a.2, bb, by rw [ea, Option.bind_some], eb, h9.we (by omega)⟩
def R_pre (τ : Mem) : Option Mem := if τ 56 9 = 64 then (if τ 56 10 = 4 then some τ else (f_RM_mark 56 248 5 τ).bind fun t1 => (f_RM_lay 56 1 t1).bind fun t2 => (f_RM_lay 56 (t2 56 9) t2).bind fun t3 => (f_RM_lay 56 (t3 56 10) t3)) else (f_RM_mark 56 248 5 τ).bind fun t1 => (f_RM_lay 56 1 t1).bind fun t2 => (f_RM_lay 56 (t2 56 9) t2).bind fun t3 => (f_RM_lay 56 (t3 56 10) t3)
set_option maxRecDepth 100000 in
set_option maxHeartbeats 4000000 in
theorem bind_id {α : Type} {x : Option α} : (x.bind fun y => some y) = x := by cases x <;> rfl
set_option maxRecDepth 100000 in
set_option maxHeartbeats 4000000 in
theorem w_presets {fz : Nat} {σ0 τ0 σ τ : Mem} {w h b c nn rs st rt n : Nat} (P : RPic σ0 τ0 w h b c nn rs st rt) (H : WS fz σ0 τ0 σ τ n) (hn : n + 7 ≤ 6000) :
    Both (some (f_SW_addPresets 21 σ)) (R_pre τ) (fun a b => WE fz σ0 τ0 a b (n + 7)) := by
  obtain ⟨-, -, -, -, -, -, -, ⟨q1, q2, q3, q4, q5, q6, q7, q8, q9⟩, -⟩ := id P
  have g0 : f_RO_get 4 0 σ = nI rs := by
    rw [show (0 : Int32) = nI 0 from rfl, ro_get (k := 4) (a := 5) (n := 3) wt_4_0 wl_5 (by omega) (by decide), H.1 5 (by omega), q1]
  have g1 : f_RO_get 4 1 σ = nI st := by
    rw [show (1 : Int32) = nI 1 from rfl, ro_get (k := 4) (a := 5) (n := 3) wt_4_0 wl_5 (by omega) (by decide), H.1 5 (by omega), q2]
  have hb : Both (lt (f_SW_segment 21 248 5 σ) fun s1 => lt (f_BY_add 17 1 s1) fun s2 => lt (f_BY_add 17 (nI rs) s2) fun s3 => lt (f_BY_add 17 (nI st) s3) fun s4 => some s4) ((f_RM_mark 56 248 5 τ).bind fun t1 => (f_RM_lay 56 1 t1).bind fun t2 => (f_RM_lay 56 (t2 56 9) t2).bind fun t3 => (f_RM_lay 56 (t3 56 10) t3)) (fun a b => WE fz σ0 τ0 a b (n + 7)) := by
    refine b_seg (v := 5) H (by omega) ⟨248, by decide, rfl⟩ rfl (by omega) (fun a1 b1 h1 => ?_)
    refine b_lay h1 (by omega) ⟨1, by decide, rfl⟩ (fun a2 b2 h2 => ?_)
    rw [h2.2.1.2 9 (by omega), q4]
    refine b_lay h2 (by omega) (byt_n q7) (fun a3 b3 h3 => ?_)
    rw [h3.2.1.2 10 (by omega), q5, ← bind_id (x := f_RM_lay 56 (nI st) b3)]
    refine b_lay h3 (by omega) (byt_n q8) (fun a4 b4 h4 => both_ret (h4.we (by omega)))
  have e1 : f_SW_addPresets 21 σ = if nI rs = 64 then (if nI st = 4 then σ else (f_BY_add 17 (nI st) (f_BY_add 17 (nI rs) (f_BY_add 17 1 (f_SW_segment 21 248 5 σ))))) else (f_BY_add 17 (nI st) (f_BY_add 17 (nI rs) (f_BY_add 17 1 (f_SW_segment 21 248 5 σ)))) := by
    rw [f_SW_addPresets, wt_21_0, wt_1_1, wt_21_1, g0, g1]
    simp only [lt_eq]
  rw [lt_eq, lt_eq, lt_eq, lt_eq] at hb
  unfold R_pre
  rw [H.2.1.2 9 (by omega), H.2.1.2 10 (by omega), q4, q5, e1]
  by_cases c1 : nI rs = 64
  · by_cases c2 : nI st = 4
    · rw [if_pos c1, if_pos c1, if_pos c2, if_pos c2]
      exact both_ret (H.we (by omega))
    · rw [if_pos c1, if_pos c1, if_neg c2, if_neg c2]
      exact hb
  · rw [if_neg c1, if_neg c1]
    exact hb
set_option maxRecDepth 100000 in
set_option maxHeartbeats 4000000 in
theorem w_numbers {fz : Nat} {σ0 τ0 σ τ : Mem} {w h b c nn rs st rt n k : Nat} {x : Int32} (P : RPic σ0 τ0 w h b c nn rs st rt) (e55 : τ0 56 55 = nI (2 ^ b - 1)) (hb : b ≤ 8) (hk : k < 4) (H : WS fz σ0 τ0 σ τ n) (hn : n + 512 ≤ 6000) :
    Both (L_SW_addTables_74 21 (nI (2 ^ b)) (nI k) 9999 0 σ) (L_RM_write_344 56 x (nI k) 9999 0 τ) (fun a b2 => WE fz σ0 τ0 a.2 b2.2 (n + 512)) := by
  obtain ⟨-, -, -, -, -, -, hnum, -⟩ := id P
  have hp := pow_le hb
  have hq := pow_pos' (b := b)
  refine (loopB (C := fun f j s => L_SW_addTables_74 21 (nI (2 ^ b)) (nI k) f (nI j) s) (R := fun f j t => L_RM_write_344 56 x (nI k) f (nI j) t) (P := fun j s t => WS fz σ0 τ0 s t (n + 2 * j)) (Q := fun a b2 => WS fz σ0 τ0 a.2 b2.2 (n + 2 * 2 ^ b)) (hi := 2 ^ b) ?_ ?_ (2 ^ b) 9999 9999 0 σ τ (by omega) (by omega) (by omega) H).mono (fun a b2 h9 => h9.we (by omega))
  · intro s t hs f g
    refine ⟨(nI (2 ^ b), s), (nI (2 ^ b), t), ?_, ?_, hs⟩
    · show L_SW_addTables_74 21 (nI (2 ^ b)) (nI k) (f + 1) (nI (2 ^ b)) s = _
      rw [L_SW_addTables_74, if_pos (nI_le (Nat.le_refl _) (by omega))]
    · show L_RM_write_344 56 x (nI k) (g + 1) (nI (2 ^ b)) t = _
      rw [L_RM_write_344, hs.2.1.2 55 (by omega), e55, if_pos (nI_lt (by omega) (by omega))]
  · intro j s t hj hs
    left
    obtain ⟨v, hv, ev⟩ := hnum.2 (256 * k + j) (by omega)
    have ev2 : τ0 59 (256 * k + j) = nI v := by rw [← hnum.1 _ (by omega)]; exact ev
    obtain ⟨a, bb, ea, eb, h9⟩ : Both (lt (f_BY_addWide 17 (nI v) s) fun s1 => some s1) ((f_RM_layWide 56 (nI v) t).bind fun t1 => some t1) (fun a b2 => WS fz σ0 τ0 a b2 (n + 2 * j + 2)) := b_wide hs (by omega) hv (fun s1 t1 h1 => both_ret h1)
    rw [bind_id] at eb
    refine ⟨a, bb, fun f => ?_, fun f => ?_, h9⟩
    · show L_SW_addTables_74 21 (nI (2 ^ b)) (nI k) (f + 1) (nI j) s = _
      have e1 : f_PI_numberOf 1 (nI k) (nI j) s = nI v := by
        rw [f_PI_numberOf, wt_1_3, nI_256, ro_get (k := 8) (a := 9) (n := 1024) wt_8_0 wl_9 (by omega) (by decide), hs.1 9 (by omega), ev]
      rw [lt_eq] at ea
      rw [L_SW_addTables_74, if_neg (nI_ge hj (by omega)), wt_21_0, wt_21_1, e1, lt_eq, nI_1, Option.some.inj ea]
    · show L_RM_write_344 56 x (nI k) (f + 1) (nI j) t = _
      rw [L_RM_write_344, hs.2.1.2 55 (by omega), e55, if_neg (Int32.not_lt.mpr (nI_le (by omega) (by omega))), nI_256']
      simp only [wt_0_1, wt_0_2, wt_0_3, wt_0_4, wt_0_5, wt_1_0, wt_1_1, wt_1_2, wt_1_3, wt_1_4, wt_2_0, wl_3, wt_4_0, wl_5, wt_6_0, wl_7, wt_8_0, wl_9, wt_10_0, wt_10_1, wt_10_2, wt_11_0, wl_12, wt_13_0, wl_14, wt_15_0, wl_16, wt_17_0, wl_18, wt_19_0, wl_20, wt_21_0, wt_21_1, wt_21_2, wt_21_3, wt_22_0, wt_22_1, wt_22_2, wt_23_0, wl_24, wt_25_0, wl_26, wt_27_0, wl_28, wt_29_0, wt_30_0, wt_30_1, wt_30_2, wt_30_3, wt_30_4, wt_30_5, wt_31_0, wt_31_1, wt_31_2, wt_31_3, wt_31_4, wt_32_0, wl_33, wt_34_0, wl_35, wt_36_0, wl_37, wt_38_0, wl_39, wt_40_0, wt_40_1, wt_40_2, wt_41_0, wl_42, wt_43_0, wl_44, wt_45_0, wl_46, wt_48_0, wt_48_1, wt_49_0, wt_49_1, wt_49_2, wt_50_0, wl_51, wt_52_0, wl_53, wt_54_0, wl_55, wt_56_6, wt_56_7, wt_56_8, wt_56_13, wt_56_14, wt_56_15, wt_56_16, wt_56_18, wt_56_21, wt_56_22, wt_56_23, wt_56_24, wt_56_25, wt_56_26, wt_56_27, wt_56_44, wt_56_45, wt_56_46, wt_56_47, wt_56_48, wt_56_49, wt_56_50, wt_56_51, wt_56_52, wt_56_53, wl_57, wl_58, wl_59, wl_60, wl_61, wl_62, wl_63, wl_64, wl_65, wl_66, wl_67, wl_68, wl_69, wl_70, wl_71, wl_72, wl_73, wl_74, wl_75, wl_76, wl_77, wl_78, wl_79, wl_80, wl_81, wl_82]
      rw [if_pos (inb_nI (by omega) (by decide)), nI_clamp (show 256 * k + j < 2 ^ 31 by omega), hs.2.1.1 59 (by omega), ev2, eb, Option.bind_some, nI_1]
set_option maxRecDepth 100000 in
set_option maxHeartbeats 4000000 in
theorem nI_top1 {b : Nat} (hb : b ≤ 8) : nI (2 ^ b - 1) + 1 = nI (2 ^ b) := by
  have hq := pow_pos' (b := b)
  rw [nI_1, show 2 ^ b - 1 + 1 = 2 ^ b by omega]
set_option maxRecDepth 100000 in
set_option maxHeartbeats 4000000 in
theorem w_tables {fz : Nat} {σ0 τ0 σ τ : Mem} {w h b c nn rs st rt n : Nat} {x : Int32} (P : RPic σ0 τ0 w h b c nn rs st rt) (e55 : τ0 56 55 = nI (2 ^ b - 1)) (hb : b ≤ 8) (hc : c ≤ 4) (H : WS fz σ0 τ0 σ τ n) (hn : n + 2076 ≤ 6000) :
    Both (f_SW_addTables 21 σ) (L_RM_write_291 56 x 9999 0 τ) (fun a b2 => WE fz σ0 τ0 a b2.2 (n + 2076)) := by
  obtain ⟨⟨s1, s2, s3, s4⟩, ⟨r1, r2, r3, r4⟩, -, -, -, htab, -⟩ := id P
  have hp := pow_le hb
  have hl : Both (L_SW_addTables_12 21 (nI (2 ^ b)) 9999 0 σ) (L_RM_write_291 56 x 9999 0 τ) (fun a b2 => WE fz σ0 τ0 a.2 b2.2 (n + 519 * c)) := by
    refine loopB (C := fun f j s => L_SW_addTables_12 21 (nI (2 ^ b)) f (nI j) s) (R := fun f j t => L_RM_write_291 56 x f (nI j) t) (P := fun j s t => WE fz σ0 τ0 s t (n + 519 * j)) (hi := c) ?_ ?_ c 9999 9999 0 σ τ (by omega) (by omega) (by omega) (H.we (by omega))
    · rintro s t ⟨m, hm, hs⟩ f g
      refine ⟨(nI c, s), (nI c, t), ?_, ?_, m, hm, hs⟩
      · show L_SW_addTables_12 21 (nI (2 ^ b)) (f + 1) (nI c) s = _
        rw [L_SW_addTables_12, wt_21_0, hs.1 1 (by omega), s4, if_pos (nI_le (Nat.le_refl _) (by omega))]
      · show L_RM_write_291 56 x (g + 1) (nI c) t = _
        rw [L_RM_write_291, hs.2.1.2 5 (by omega), r4, if_pos (nI_le (Nat.le_refl _) (by omega))]
    · rintro j s t hj ⟨m, hm, hs⟩
      left
      have eH : f_PI_hasTable 1 (nI j) s = if τ0 58 j = 0 then 0 else 1 := by
        rw [f_PI_hasTable, wt_1_2, ro_get (k := 6) (a := 7) (n := 4) wt_6_0 wl_7 (by omega) (by decide), hs.1 7 (by omega)]
        simp only [htab j (show j < 4 by omega)]
      by_cases ht : τ0 58 j = 0
      · refine ⟨s, t, fun f => ?_, fun f => ?_, hs.we (by omega)⟩
        · show L_SW_addTables_12 21 (nI (2 ^ b)) (f + 1) (nI j) s = _
          rw [L_SW_addTables_12, wt_21_0, hs.1 1 (by omega), s4, if_neg (nI_ge hj (by omega)), lt_eq, eH, if_pos ht, if_pos rfl, nI_1]
        · show L_RM_write_291 56 x (f + 1) (nI j) t = _
          rw [L_RM_write_291, hs.2.1.2 5 (by omega), r4, if_neg (nI_ge hj (by omega))]
          simp only [wt_0_1, wt_0_2, wt_0_3, wt_0_4, wt_0_5, wt_1_0, wt_1_1, wt_1_2, wt_1_3, wt_1_4, wt_2_0, wl_3, wt_4_0, wl_5, wt_6_0, wl_7, wt_8_0, wl_9, wt_10_0, wt_10_1, wt_10_2, wt_11_0, wl_12, wt_13_0, wl_14, wt_15_0, wl_16, wt_17_0, wl_18, wt_19_0, wl_20, wt_21_0, wt_21_1, wt_21_2, wt_21_3, wt_22_0, wt_22_1, wt_22_2, wt_23_0, wl_24, wt_25_0, wl_26, wt_27_0, wl_28, wt_29_0, wt_30_0, wt_30_1, wt_30_2, wt_30_3, wt_30_4, wt_30_5, wt_31_0, wt_31_1, wt_31_2, wt_31_3, wt_31_4, wt_32_0, wl_33, wt_34_0, wl_35, wt_36_0, wl_37, wt_38_0, wl_39, wt_40_0, wt_40_1, wt_40_2, wt_41_0, wl_42, wt_43_0, wl_44, wt_45_0, wl_46, wt_48_0, wt_48_1, wt_49_0, wt_49_1, wt_49_2, wt_50_0, wl_51, wt_52_0, wl_53, wt_54_0, wl_55, wt_56_6, wt_56_7, wt_56_8, wt_56_13, wt_56_14, wt_56_15, wt_56_16, wt_56_18, wt_56_21, wt_56_22, wt_56_23, wt_56_24, wt_56_25, wt_56_26, wt_56_27, wt_56_44, wt_56_45, wt_56_46, wt_56_47, wt_56_48, wt_56_49, wt_56_50, wt_56_51, wt_56_52, wt_56_53, wl_57, wl_58, wl_59, wl_60, wl_61, wl_62, wl_63, wl_64, wl_65, wl_66, wl_67, wl_68, wl_69, wl_70, wl_71, wl_72, wl_73, wl_74, wl_75, wl_76, wl_77, wl_78, wl_79, wl_80, wl_81, wl_82]
          rw [if_pos (inb_nI (by omega) (by decide)), lt_eq, nI_clamp (show j < 2 ^ 31 by omega), hs.2.1.1 58 (by omega), if_pos ht, nI_1]
      · have e5 : (5 : Int32) + 2 * nI (2 ^ b) = nI (5 + 2 * 2 ^ b) := by rw [show (2 : Int32) = nI 2 from rfl, show (5 : Int32) = nI 5 from rfl, nI_mul, nI_add]
        obtain ⟨a, bb, ea, eb, m2, hm2, h9⟩ : Both (lt (f_SW_segment 21 248 (5 + 2 * nI (2 ^ b)) s) fun s1 => lt (f_BY_add 17 2 s1) fun s2 => lt (f_BY_add 17 (nI (j + 1)) s2) fun s3 => lt (f_BY_add 17 2 s3) fun s4 => L_SW_addTables_74 21 (nI (2 ^ b)) (nI j) 9999 0 s4) ((f_RM_mark 56 248 (5 + 2 * nI (2 ^ b)) t).bind fun t1 => (f_RM_lay 56 2 t1).bind fun t2 => (f_RM_lay 56 (nI (j + 1)) t2).bind fun t3 => (f_RM_lay 56 2 t3).bind fun t4 => L_RM_write_344 56 x (nI j) 9999 0 t4) (fun a b2 => WE fz σ0 τ0 a.2 b2.2 (m + 519)) := by
          refine b_seg hs (by omega) ⟨248, by decide, rfl⟩ e5 (by omega) (fun a1 b1 h1 => ?_)
          refine b_lay h1 (by omega) ⟨2, by decide, rfl⟩ (fun a2 b2 h2 => ?_)
          refine b_lay h2 (by omega) (byt_n (by omega)) (fun a3 b3 h3 => ?_)
          refine b_lay h3 (by omega) ⟨2, by decide, rfl⟩ (fun a4 b4 h4 => ?_)
          exact (w_numbers P e55 hb (by omega) h4 (by omega)).mono (fun _ _ h5 => h5.mono (by omega))
        refine ⟨a.2, bb.2, fun f => ?_, fun f => ?_, h9.we (by omega)⟩
        · show L_SW_addTables_12 21 (nI (2 ^ b)) (f + 1) (nI j) s = _
          rw [lt_eq, lt_eq, lt_eq, lt_eq] at ea
          rw [L_SW_addTables_12, wt_21_0, wt_21_1, hs.1 1 (by omega), s4, if_neg (nI_ge hj (by omega)), eH, if_neg ht, lt_eq, if_neg (by decide), lt_eq, lt_eq, lt_eq, lt_eq, nI_1, ea, Option.bind_some]
        · show L_RM_write_291 56 x (f + 1) (nI j) t = _
          rw [L_RM_write_291, hs.2.1.2 5 (by omega), r4, if_neg (nI_ge hj (by omega))]
          simp only [wt_0_1, wt_0_2, wt_0_3, wt_0_4, wt_0_5, wt_1_0, wt_1_1, wt_1_2, wt_1_3, wt_1_4, wt_2_0, wl_3, wt_4_0, wl_5, wt_6_0, wl_7, wt_8_0, wl_9, wt_10_0, wt_10_1, wt_10_2, wt_11_0, wl_12, wt_13_0, wl_14, wt_15_0, wl_16, wt_17_0, wl_18, wt_19_0, wl_20, wt_21_0, wt_21_1, wt_21_2, wt_21_3, wt_22_0, wt_22_1, wt_22_2, wt_23_0, wl_24, wt_25_0, wl_26, wt_27_0, wl_28, wt_29_0, wt_30_0, wt_30_1, wt_30_2, wt_30_3, wt_30_4, wt_30_5, wt_31_0, wt_31_1, wt_31_2, wt_31_3, wt_31_4, wt_32_0, wl_33, wt_34_0, wl_35, wt_36_0, wl_37, wt_38_0, wl_39, wt_40_0, wt_40_1, wt_40_2, wt_41_0, wl_42, wt_43_0, wl_44, wt_45_0, wl_46, wt_48_0, wt_48_1, wt_49_0, wt_49_1, wt_49_2, wt_50_0, wl_51, wt_52_0, wl_53, wt_54_0, wl_55, wt_56_6, wt_56_7, wt_56_8, wt_56_13, wt_56_14, wt_56_15, wt_56_16, wt_56_18, wt_56_21, wt_56_22, wt_56_23, wt_56_24, wt_56_25, wt_56_26, wt_56_27, wt_56_44, wt_56_45, wt_56_46, wt_56_47, wt_56_48, wt_56_49, wt_56_50, wt_56_51, wt_56_52, wt_56_53, wl_57, wl_58, wl_59, wl_60, wl_61, wl_62, wl_63, wl_64, wl_65, wl_66, wl_67, wl_68, wl_69, wl_70, wl_71, wl_72, wl_73, wl_74, wl_75, wl_76, wl_77, wl_78, wl_79, wl_80, wl_81, wl_82]
          rw [if_pos (inb_nI (by omega) (by decide)), lt_eq, nI_clamp (show j < 2 ^ 31 by omega), hs.2.1.1 58 (by omega), if_neg ht, hs.2.1.2 55 (by omega), e55, nI_top1 hb, nI_1]
          have e6 : ∀ g : Int32 × Mem → Option (Int32 × Mem), ((f_RM_mark 56 248 (5 + 2 * nI (2 ^ b)) t).bind fun t1 => (f_RM_lay 56 2 t1).bind fun t2 => (f_RM_lay 56 (nI (j + 1)) t2).bind fun t3 => (f_RM_lay 56 2 t3).bind fun t4 => (L_RM_write_344 56 x (nI j) 9999 0 t4).bind g) = ((f_RM_mark 56 248 (5 + 2 * nI (2 ^ b)) t).bind fun t1 => (f_RM_lay 56 2 t1).bind fun t2 => (f_RM_lay 56 (nI (j + 1)) t2).bind fun t3 => (f_RM_lay 56 2 t3).bind fun t4 => L_RM_write_344 56 x (nI j) 9999 0 t4).bind g := by
            intro g
            simp only [Option.bind_assoc]
          rw [e6, eb, Option.bind_some]
  obtain ⟨a, bb, ea, eb, h9⟩ := hl
  refine ⟨a.2, bb, ?_, eb, h9.mono (by omega)⟩
  rw [f_SW_addTables, wt_21_0, f_PI_top, H.1 1 (by omega), s3, top_nI hb, nI_top1 hb, ea, Option.bind_some]
def R_rst (τ : Mem) : Option Mem := if τ 56 11 ≤ 0 then some τ else (f_RM_mark 56 221 4 τ).bind fun t1 => f_RM_layWide 56 (t1 56 11) t1
set_option maxRecDepth 100000 in
set_option maxHeartbeats 4000000 in
theorem w_restarts {fz : Nat} {σ0 τ0 σ τ : Mem} {w h b c nn rs st rt n : Nat} (P : RPic σ0 τ0 w h b c nn rs st rt) (H : WS fz σ0 τ0 σ τ n) (hn : n + 6 ≤ 6000) :
    Both (some (f_SW_addRestarts 21 σ)) (R_rst τ) (fun a b => WE fz σ0 τ0 a b (n + 6)) := by
  obtain ⟨-, -, -, -, -, -, -, ⟨q1, q2, q3, q4, q5, q6, q7, q8, q9⟩, -⟩ := id P
  have g2 : f_RO_get 4 2 σ = nI rt := by
    rw [show (2 : Int32) = nI 2 from rfl, ro_get (k := 4) (a := 5) (n := 3) wt_4_0 wl_5 (by omega) (by decide), H.1 5 (by omega), q3]
  have e1 : f_SW_addRestarts 21 σ = if nI rt = 0 then σ else f_BY_addWide 17 (nI rt) (f_SW_segment 21 221 4 σ) := by
    rw [f_SW_addRestarts, wt_21_0, wt_1_1, wt_21_1, g2]
    simp only [lt_eq]
  unfold R_rst
  rw [e1, H.2.1.2 11 (by omega), q6]
  by_cases z : rt = 0
  · subst z
    rw [if_pos (by decide), if_pos (by decide)]
    exact both_ret (H.we (by omega))
  · rw [if_neg (nI_ne0 (by omega) (by omega)), if_neg (show ¬ nI rt ≤ 0 from nI_ge (a := 0) (b := rt) (by omega) (by omega))]
    have hb : Both (lt (f_SW_segment 21 221 4 σ) fun s1 => lt (f_BY_addWide 17 (nI rt) s1) fun s2 => some s2) ((f_RM_mark 56 221 4 τ).bind fun t1 => f_RM_layWide 56 (t1 56 11) t1) (fun a b => WE fz σ0 τ0 a b (n + 6)) := by
      refine b_seg (v := 4) H (by omega) ⟨221, by decide, rfl⟩ rfl (by omega) (fun a1 b1 h1 => ?_)
      rw [h1.2.1.2 11 (by omega), q6, ← bind_id (x := f_RM_layWide 56 (nI rt) b1)]
      exact b_wide h1 (by omega) (by omega) (fun a2 b2 h2 => both_ret (h2.we (by omega)))
    rw [lt_eq, lt_eq] at hb
    exact hb
set_option maxRecDepth 100000 in
set_option maxHeartbeats 4000000 in
/-- the head of a scan: lo components are behind, cn are told -/
theorem w_scanHead {fz : Nat} {σ0 τ0 σ τ : Mem} {w h b c nn rs st rt n lo cn ne : Nat} {y : Int32} (P : RPic σ0 τ0 w h b c nn rs st rt) (hc : lo + cn ≤ 4) (e54 : τ0 56 54 = nI ne) (hne : ne ≤ 3) (hy : byt y) (H : WS fz σ0 τ0 σ τ n) (hn : n + 16 ≤ 6000) :
    Both (f_SW_addScanHead 21 (nI lo) (nI cn) (nI ne) y σ) ((f_RM_mark 56 218 (6 + 2 * nI cn) τ).bind fun t1 => (f_RM_lay 56 (nI cn) t1).bind fun t2 => (L_RM_scan_25 56 (nI lo) (nI (lo + cn)) y 9999 (nI lo) t2).bind fun q => (f_RM_lay 56 (q.2 56 54) q.2).bind fun t3 => (f_RM_lay 56 y t3).bind fun t4 => f_RM_lay 56 0 t4) (fun a b2 => WE fz σ0 τ0 a b2 (n + 8 + 2 * cn)) := by
  obtain ⟨-, -, -, -, -, htab, -⟩ := id P
  have e6 : (6 : Int32) + 2 * nI cn = nI (6 + 2 * cn) := by rw [show (2 : Int32) = nI 2 from rfl, show (6 : Int32) = nI 6 from rfl, nI_mul, nI_add]
  have e1 : f_SW_addScanHead 21 (nI lo) (nI cn) (nI ne) y σ = lt (f_SW_segment 21 218 (6 + 2 * nI cn) σ) fun s1 => lt (f_BY_add 17 (nI cn) s1) fun s2 => (L_SW_addScanHead_24 21 (nI lo) (nI cn) (nI ne) y 9999 (nI lo) s2).bind fun q => lt (f_BY_add 17 (nI ne) q.2) fun s3 => lt (f_BY_add 17 y s3) fun s4 => lt (f_BY_add 17 0 s4) fun s5 => some s5 := by
    rw [f_SW_addScanHead, wt_21_1]
  rw [e1]
  refine b_seg H (by omega) ⟨218, by decide, rfl⟩ e6 (by omega) (fun a1 b1 h1 => ?_)
  refine b_lay h1 (by omega) (byt_n (by omega)) (fun a2 b2 h2 => ?_)
  refine both_bind (Q := fun a b => WS fz σ0 τ0 a.2 b.2 (n + 4 + 1 + 2 * cn)) ?_ (fun a b h3 => ?_)
  · refine loopB (C := fun f j s => L_SW_addScanHead_24 21 (nI lo) (nI cn) (nI ne) y f (nI (lo + j)) s) (R := fun f j t => L_RM_scan_25 56 (nI lo) (nI (lo + cn)) y f (nI (lo + j)) t) (P := fun j s t => WS fz σ0 τ0 s t (n + 4 + 1 + 2 * j)) (hi := cn) ?_ ?_ cn 9999 9999 0 a2 b2 (by omega) (by omega) (by omega) h2
    · intro s t hs f g
      refine ⟨(nI (lo + cn), s), (nI (lo + cn), t), ?_, ?_, hs⟩
      · show L_SW_addScanHead_24 21 (nI lo) (nI cn) (nI ne) y (f + 1) (nI (lo + cn)) s = _
        rw [L_SW_addScanHead_24, nI_add, if_pos (nI_le (Nat.le_refl _) (by omega))]
      · show L_RM_scan_25 56 (nI lo) (nI (lo + cn)) y (g + 1) (nI (lo + cn)) t = _
        rw [L_RM_scan_25, if_pos (nI_le (Nat.le_refl _) (by omega))]
    · intro j s t hj hs
      left
      have hbx : byt (if τ0 58 (lo + j) = 0 then 0 else nI (lo + j + 1)) := by
        by_cases e : τ0 58 (lo + j) = 0
        · rw [if_pos e]
          exact ⟨0, by decide, rfl⟩
        · rw [if_neg e]
          exact byt_n (by omega)
      have H1 := hs.lay (x := nI (lo + j + 1)) (by omega) (byt_n (by omega))
      have H2 := H1.lay (by omega) hbx
      refine ⟨_, _, fun f => ?_, fun f => ?_, H2⟩
      · show L_SW_addScanHead_24 21 (nI lo) (nI cn) (nI ne) y (f + 1) (nI (lo + j)) s = _
        have eH : f_PI_hasTable 1 (nI (lo + j)) (mput (mput s 18 (n + 4 + 1 + 2 * j) (nI (lo + j + 1))) 17 1 (nI (n + 4 + 1 + 2 * j + 1))) = if τ0 58 (lo + j) = 0 then 0 else 1 := by
          rw [f_PI_hasTable, wt_1_2, ro_get (k := 6) (a := 7) (n := 4) wt_6_0 wl_7 (by omega) (by decide), H1.1 7 (by omega)]
          simp only [htab (lo + j) (show lo + j < 4 by omega)]
        rw [L_SW_addScanHead_24, nI_add, if_neg (nI_ge (by omega) (by omega)), wt_21_0, wt_21_1, lt_eq, lt_eq, nI_1, w_add hs.2.2.1 (by omega), eH]
        have e9 : (if (if τ0 58 (lo + j) = 0 then (0 : Int32) else 1) = 0 then (0 : Int32) else nI (lo + j + 1)) = if τ0 58 (lo + j) = 0 then 0 else nI (lo + j + 1) := by
          by_cases e : τ0 58 (lo + j) = 0
          · rw [if_pos e, if_pos e, if_pos rfl]
          · rw [if_neg e, if_neg e, if_neg (by decide)]
        rw [e9, w_add H1.2.2.1 (by omega)]
        rfl
      · show L_RM_scan_25 56 (nI lo) (nI (lo + cn)) y (f + 1) (nI (lo + j)) t = _
        rw [L_RM_scan_25, if_neg (nI_ge (by omega) (by omega)), nI_1, rm_lay hs.2.2.2.1 (by omega), Option.bind_some]
        simp only [wt_0_1, wt_0_2, wt_0_3, wt_0_4, wt_0_5, wt_1_0, wt_1_1, wt_1_2, wt_1_3, wt_1_4, wt_2_0, wl_3, wt_4_0, wl_5, wt_6_0, wl_7, wt_8_0, wl_9, wt_10_0, wt_10_1, wt_10_2, wt_11_0, wl_12, wt_13_0, wl_14, wt_15_0, wl_16, wt_17_0, wl_18, wt_19_0, wl_20, wt_21_0, wt_21_1, wt_21_2, wt_21_3, wt_22_0, wt_22_1, wt_22_2, wt_23_0, wl_24, wt_25_0, wl_26, wt_27_0, wl_28, wt_29_0, wt_30_0, wt_30_1, wt_30_2, wt_30_3, wt_30_4, wt_30_5, wt_31_0, wt_31_1, wt_31_2, wt_31_3, wt_31_4, wt_32_0, wl_33, wt_34_0, wl_35, wt_36_0, wl_37, wt_38_0, wl_39, wt_40_0, wt_40_1, wt_40_2, wt_41_0, wl_42, wt_43_0, wl_44, wt_45_0, wl_46, wt_48_0, wt_48_1, wt_49_0, wt_49_1, wt_49_2, wt_50_0, wl_51, wt_52_0, wl_53, wt_54_0, wl_55, wt_56_6, wt_56_7, wt_56_8, wt_56_13, wt_56_14, wt_56_15, wt_56_16, wt_56_18, wt_56_21, wt_56_22, wt_56_23, wt_56_24, wt_56_25, wt_56_26, wt_56_27, wt_56_44, wt_56_45, wt_56_46, wt_56_47, wt_56_48, wt_56_49, wt_56_50, wt_56_51, wt_56_52, wt_56_53, wl_57, wl_58, wl_59, wl_60, wl_61, wl_62, wl_63, wl_64, wl_65, wl_66, wl_67, wl_68, wl_69, wl_70, wl_71, wl_72, wl_73, wl_74, wl_75, wl_76, wl_77, wl_78, wl_79, wl_80, wl_81, wl_82]
        rw [if_pos (inb_nI (by omega) (by decide)), nI_clamp (show lo + j < 2 ^ 31 by omega), H1.2.1.1 58 (by omega), rm_lay H1.2.2.2.1 (by omega), Option.bind_some]
        rfl
  · rw [h3.2.1.2 54 (by omega), e54]
    refine b_lay h3 (by omega) (byt_n (by omega)) (fun a4 b4 h4 => ?_)
    refine b_lay h4 (by omega) hy (fun a5 b5 h5 => ?_)
    rw [← bind_id (x := f_RM_lay 56 0 b5)]
    exact b_lay h5 (by omega) ⟨0, by decide, rfl⟩ (fun a6 b6 h6 => both_ret (h6.we (by omega)))
