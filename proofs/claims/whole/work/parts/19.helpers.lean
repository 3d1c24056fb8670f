theorem i00 : Is 0 0 := ⟨by decide, by decide +kernel⟩
theorem mv_LAW_7 : MV "LineFramesLaw" 7 ⟨"LineFrames", "picture", "(IIII)I"⟩ prog_1_method_2_code 5 (some .int) 4 0 := ⟨⟨Or.inl (List.mem_of_getElem? (i := 698) (by decide +kernel)), (List.mem_of_getElem? (i := 76) (by decide +kernel)), (List.mem_of_getElem? (i := 701) (by decide +kernel)), by decide, by decide +kernel⟩, (List.mem_of_getElem? (i := 699) (by decide +kernel)), (List.mem_of_getElem? (i := 700) (by decide +kernel)), _, rfl, rfl⟩
theorem mv_LAW_15 : MV "LineFramesLaw" 15 ⟨"LineFrames", "put", "(IIII)I"⟩ prog_1_method_3_code 7 (some .int) 4 0 := ⟨⟨Or.inl (List.mem_of_getElem? (i := 779) (by decide +kernel)), (List.mem_of_getElem? (i := 76) (by decide +kernel)), (List.mem_of_getElem? (i := 782) (by decide +kernel)), by decide, by decide +kernel⟩, (List.mem_of_getElem? (i := 780) (by decide +kernel)), (List.mem_of_getElem? (i := 781) (by decide +kernel)), _, rfl, rfl⟩
theorem mv_LAW_22 : MV "LineFramesLaw" 22 ⟨"LineFrames", "preset", "(II)I"⟩ prog_1_method_4_code 4 (some .int) 2 0 := ⟨⟨Or.inl (List.mem_of_getElem? (i := 836) (by decide +kernel)), (List.mem_of_getElem? (i := 76) (by decide +kernel)), (List.mem_of_getElem? (i := 839) (by decide +kernel)), by decide, by decide +kernel⟩, (List.mem_of_getElem? (i := 837) (by decide +kernel)), (List.mem_of_getElem? (i := 838) (by decide +kernel)), _, rfl, rfl⟩
theorem mv_LAW_26 : MV "LineFramesLaw" 26 ⟨"LineFrames", "table", "(III)I"⟩ prog_1_method_5_code 5 (some .int) 3 0 := ⟨⟨Or.inl (List.mem_of_getElem? (i := 845) (by decide +kernel)), (List.mem_of_getElem? (i := 76) (by decide +kernel)), (List.mem_of_getElem? (i := 848) (by decide +kernel)), by decide, by decide +kernel⟩, (List.mem_of_getElem? (i := 846) (by decide +kernel)), (List.mem_of_getElem? (i := 847) (by decide +kernel)), _, rfl, rfl⟩
theorem mv_LAW_30 : MV "LineFramesLaw" 30 ⟨"LineFrames", "note", "(I)I"⟩ prog_1_method_6_code 2 (some .int) 1 0 := ⟨⟨Or.inl (List.mem_of_getElem? (i := 864) (by decide +kernel)), (List.mem_of_getElem? (i := 76) (by decide +kernel)), (List.mem_of_getElem? (i := 867) (by decide +kernel)), by decide, by decide +kernel⟩, (List.mem_of_getElem? (i := 865) (by decide +kernel)), (List.mem_of_getElem? (i := 866) (by decide +kernel)), _, rfl, rfl⟩
theorem mv_LAW_36 : MV "LineFramesLaw" 36 ⟨"LineFrames", "byteOf", "(II)I"⟩ prog_1_method_7_code 3 (some .int) 2 0 := ⟨⟨Or.inl (List.mem_of_getElem? (i := 890) (by decide +kernel)), (List.mem_of_getElem? (i := 76) (by decide +kernel)), (List.mem_of_getElem? (i := 893) (by decide +kernel)), by decide, by decide +kernel⟩, (List.mem_of_getElem? (i := 891) (by decide +kernel)), (List.mem_of_getElem? (i := 892) (by decide +kernel)), _, rfl, rfl⟩
theorem mv_LAW_39 : MV "LineFramesLaw" 39 ⟨"LineFrames", "write", "(I)I"⟩ prog_1_method_8_code 2 (some .int) 1 0 := ⟨⟨Or.inl (List.mem_of_getElem? (i := 912) (by decide +kernel)), (List.mem_of_getElem? (i := 76) (by decide +kernel)), (List.mem_of_getElem? (i := 915) (by decide +kernel)), by decide, by decide +kernel⟩, (List.mem_of_getElem? (i := 913) (by decide +kernel)), (List.mem_of_getElem? (i := 914) (by decide +kernel)), _, rfl, rfl⟩
theorem mv_LAW_42 : MV "LineFramesLaw" 42 ⟨"LineFrames", "byteAt", "(I)I"⟩ prog_1_method_9_code 2 (some .int) 1 0 := ⟨⟨Or.inl (List.mem_of_getElem? (i := 1014) (by decide +kernel)), (List.mem_of_getElem? (i := 76) (by decide +kernel)), (List.mem_of_getElem? (i := 1017) (by decide +kernel)), by decide, by decide +kernel⟩, (List.mem_of_getElem? (i := 1015) (by decide +kernel)), (List.mem_of_getElem? (i := 1016) (by decide +kernel)), _, rfl, rfl⟩
theorem mv_LAW_45 : MV "LineFramesLaw" 45 ⟨"LineFrames", "feed", "(I)I"⟩ prog_1_method_10_code 2 (some .int) 1 0 := ⟨⟨Or.inl (List.mem_of_getElem? (i := 1024) (by decide +kernel)), (List.mem_of_getElem? (i := 76) (by decide +kernel)), (List.mem_of_getElem? (i := 1027) (by decide +kernel)), by decide, by decide +kernel⟩, (List.mem_of_getElem? (i := 1025) (by decide +kernel)), (List.mem_of_getElem? (i := 1026) (by decide +kernel)), _, rfl, rfl⟩
theorem mv_LAW_48 : MV "LineFramesLaw" 48 ⟨"LineFrames", "pass", "(II)I"⟩ prog_1_method_11_code 5 (some .int) 2 0 := ⟨⟨Or.inl (List.mem_of_getElem? (i := 1037) (by decide +kernel)), (List.mem_of_getElem? (i := 76) (by decide +kernel)), (List.mem_of_getElem? (i := 1040) (by decide +kernel)), by decide, by decide +kernel⟩, (List.mem_of_getElem? (i := 1038) (by decide +kernel)), (List.mem_of_getElem? (i := 1039) (by decide +kernel)), _, rfl, rfl⟩
theorem mv_LAW_51 : MV "LineFramesLaw" 51 ⟨"LineFrames", "alter", "(II)I"⟩ prog_1_method_12_code 4 (some .int) 2 0 := ⟨⟨Or.inl (List.mem_of_getElem? (i := 1046) (by decide +kernel)), (List.mem_of_getElem? (i := 76) (by decide +kernel)), (List.mem_of_getElem? (i := 1049) (by decide +kernel)), by decide, by decide +kernel⟩, (List.mem_of_getElem? (i := 1047) (by decide +kernel)), (List.mem_of_getElem? (i := 1048) (by decide +kernel)), _, rfl, rfl⟩
theorem mv_LAW_54 : MV "LineFramesLaw" 54 ⟨"LineFrames", "at", "(IIIZ)I"⟩ prog_1_method_14_code 7 (some .int) 4 0 := ⟨⟨Or.inl (List.mem_of_getElem? (i := 1058) (by decide +kernel)), (List.mem_of_getElem? (i := 76) (by decide +kernel)), (List.mem_of_getElem? (i := 1061) (by decide +kernel)), by decide, by decide +kernel⟩, (List.mem_of_getElem? (i := 1059) (by decide +kernel)), (List.mem_of_getElem? (i := 1060) (by decide +kernel)), _, rfl, rfl⟩
theorem mv_LAW_58 : MV "LineFramesLaw" 58 ⟨"LineFrames", "found", "(I)I"⟩ prog_1_method_15_code 3 (some .int) 1 0 := ⟨⟨Or.inl (List.mem_of_getElem? (i := 1070) (by decide +kernel)), (List.mem_of_getElem? (i := 76) (by decide +kernel)), (List.mem_of_getElem? (i := 1073) (by decide +kernel)), by decide, by decide +kernel⟩, (List.mem_of_getElem? (i := 1071) (by decide +kernel)), (List.mem_of_getElem? (i := 1072) (by decide +kernel)), _, rfl, rfl⟩
theorem mv_LAW_61 : MV "LineFramesLaw" 61 ⟨"LineFrames", "noteAt", "(II)I"⟩ prog_1_method_16_code 4 (some .int) 2 0 := ⟨⟨Or.inl (List.mem_of_getElem? (i := 1077) (by decide +kernel)), (List.mem_of_getElem? (i := 76) (by decide +kernel)), (List.mem_of_getElem? (i := 1080) (by decide +kernel)), by decide, by decide +kernel⟩, (List.mem_of_getElem? (i := 1078) (by decide +kernel)), (List.mem_of_getElem? (i := 1079) (by decide +kernel)), _, rfl, rfl⟩
/-! the fourteen helpers -/
def HRes (cds : List (Nat × Int32)) (ρ : Rs) (k : Int32) (σ1 : Mem) : Prop := (∃ r σ2, ρ = (.inl (some (.int r)), σ2) ∧ k = 0 ∧ σ1 = mput σ2 82 0 r) ∨ ∃ n, ρ = (.inr n, σ1) ∧ (n, k) ∈ cds
theorem xrIM_n (t : (Int32 ⊕ Nat) × Mem) (σ2 : Mem) : xrIM t ≠ (.inl none, σ2) := by obtain ⟨t, σ⟩ := t; cases t <;> intro h <;> cases h
theorem xrI_n (t : Int32 ⊕ Nat) (σ σ2 : Mem) : xrI t σ ≠ (.inl none, σ2) := by cases t <;> intro h <;> cases h
theorem xrIM_v (t : (Int32 ⊕ Nat) × Mem) (v : Value) (σ2 : Mem) (h : xrIM t = (.inl (some v), σ2)) : ∃ r, v = .int r := by obtain ⟨t, σ⟩ := t; cases t with | inl r => cases h; exact ⟨r, rfl⟩ | inr n => cases h
theorem xrI_v (t : Int32 ⊕ Nat) (σ : Mem) (v : Value) (σ2 : Mem) (h : xrI t σ = (.inl (some v), σ2)) : ∃ r, v = .int r := by cases t with | inl r => cases h; exact ⟨r, rfl⟩ | inr n => cases h
theorem hcast4 : ∀ n, 1 ≤ n → n ≤ 4 → Cond.castable (xNm n) (xNm n) ∈ lw_tbl := by
  intro n h1 h2
  match n, h1, h2 with
  | 1, _, _ => exact (List.mem_of_getElem? (i := 789) (by decide +kernel))
  | 2, _, _ => exact (List.mem_of_getElem? (i := 810) (by decide +kernel))
  | 3, _, _ => exact (List.mem_of_getElem? (i := 705) (by decide +kernel))
  | 4, _, _ => exact (List.mem_of_getElem? (i := 872) (by decide +kernel))
  | n + 5, _, h => omega
theorem d_LAW_picture_0 : decode method_3_code 0 = .ok (.aload 5, 2) := by decide +kernel
theorem d_LAW_picture_2 : decode method_3_code 2 = .ok (.iconst 0, 1) := by decide +kernel
theorem d_LAW_picture_3 : decode method_3_code 3 = .ok (.aload_n 0, 1) := by decide +kernel
theorem d_LAW_picture_4 : decode method_3_code 4 = .ok (.iload_n 1, 1) := by decide +kernel
theorem d_LAW_picture_5 : decode method_3_code 5 = .ok (.iload_n 2, 1) := by decide +kernel
theorem d_LAW_picture_6 : decode method_3_code 6 = .ok (.iload_n 3, 1) := by decide +kernel
theorem d_LAW_picture_7 : decode method_3_code 7 = .ok (.iload 4, 2) := by decide +kernel
theorem d_LAW_picture_9 : decode method_3_code 9 = .ok (.invokevirtual 7, 3) := by decide +kernel
theorem d_LAW_picture_12 : decode method_3_code 12 = .ok (.i2l, 1) := by decide +kernel
theorem d_LAW_picture_13 : decode method_3_code 13 = .ok (.lastore, 1) := by decide +kernel
theorem d_LAW_picture_14 : decode method_3_code 14 = .ok (.goto 7, 3) := by decide +kernel
theorem d_LAW_picture_17 : decode method_3_code 17 = .ok (.astore 6, 2) := by decide +kernel
theorem d_LAW_picture_19 : decode method_3_code 19 = .ok (.iconst 1, 1) := by decide +kernel
theorem d_LAW_picture_20 : decode method_3_code 20 = .ok (.ireturn, 1) := by decide +kernel
theorem d_LAW_picture_21 : decode method_3_code 21 = .ok (.iconst 0, 1) := by decide +kernel
theorem d_LAW_picture_22 : decode method_3_code 22 = .ok (.ireturn, 1) := by decide +kernel
set_option maxHeartbeats 4000000 in
set_option maxRecDepth 100000 in
theorem h_picture {l : Launch} {D : va_G} {G : GC} {ad : Nat → Nat} (p1 : Int32) (p2 : Int32) (p3 : Int32) (p4 : Int32) (σ : Mem) {t : (Int32 ⊕ Nat) × Mem} (ht : f_LF_picture 0 p1 p2 p3 p4 σ = some t) {k : Int32} {σ1 : Mem} (hk : HRes [(3, 1)] (xrIM t) k σ1) : CtrH l D G ad ⟨"LineFramesLaw", "picture", "(LLineFrames;IIII[J)I"⟩ method_3_code 7 [(0, 14, 17, 13)] 7 114 [.ref (ad 0), .int p1, .int p2, .int p3, .int p4, .ref (ad 82)] σ k σ1 := by
  refine ctrH_of (by decide +kernel) rfl (Nat.le_of_ble_eq_true rfl) (fun p e s m below meth c ls C hl => ?_)
  have hl : lv_has ls 7 [(0, .ref (ad 0)), (1, .int p1), (2, .int p2), (3, .int p3), (4, .int p4), (5, .ref (ad 82))] := hl
  refine lv_aload C.1 C.2.1 d_LAW_picture_0 (lv_at hl 5 rfl) ?_
  refine lv_iconst (v := 0) C.1 C.2.1 d_LAW_picture_2 (by decide) ?_
  refine lv_aload_n C.1 C.2.1 d_LAW_picture_3 rfl (lv_at hl 0 rfl) ?_
  refine lv_iload_n C.1 C.2.1 d_LAW_picture_4 rfl (lv_at hl 1 rfl) ?_
  refine lv_iload_n C.1 C.2.1 d_LAW_picture_5 rfl (lv_at hl 2 rfl) ?_
  refine lv_iload_n C.1 C.2.1 d_LAW_picture_6 rfl (lv_at hl 3 rfl) ?_
  refine lv_iload C.1 C.2.1 d_LAW_picture_7 (lv_at hl 4 rfl) ?_
  refine hp_call C mv_LAW_7 (As := [.int p1, .int p2, .int p3, .int p4]) rfl (c_LF_picture i00 p1 p2 p3 p4 σ ht) (by decide) d_LAW_picture_9 hl.1 [((0, 14, 17, 13), 3)] rfl (by
      intro x hx
      simp only [List.mem_cons, List.not_mem_nil, or_false] at hx
      rcases hx with rfl
      · exact ⟨by decide, by decide, by decide, (List.mem_of_getElem? (i := 697) (by decide +kernel))⟩) hcast4 (fun r σ2 H1 locs1 hρ hP hS => ?_) (xrIM_n t) (xrIM_v t) (fun n σ2 hρ => ?_)
  · rcases hk with ⟨r1, σ3, e1, rfl, rfl⟩ | ⟨n1, e1, -⟩
    · cases hρ.symm.trans e1
      refine hp_out C hP hS d_LAW_picture_12 d_LAW_picture_13 (fun H1 locs1 hP hS => ?_)
      refine lv_goto (tgt := 21) C.1 C.2.1 d_LAW_picture_14 (by decide) ?_
      exact hp_ret C hP hS (by decide) (by decide) d_LAW_picture_21 rfl d_LAW_picture_22
    · cases hρ.symm.trans e1
  · rcases hk with ⟨r1, σ3, e1, -, -⟩ | ⟨n1, e1, hm⟩
    · cases hρ.symm.trans e1
    · cases hρ.symm.trans e1
      simp only [List.mem_cons, Prod.mk.injEq, List.not_mem_nil, or_false] at hm
      rcases hm with ⟨rfl, rfl⟩
      · refine ⟨by decide, 17, rfl, fun q H1 locs1 hP hS => ?_⟩
        refine lv_astore C.1 C.2.1 d_LAW_picture_17 hl (by decide) rfl (fun ls2 _ => ?_)
        exact hp_ret C hP hS (by decide) (by decide) d_LAW_picture_19 rfl d_LAW_picture_20
theorem d_LAW_put_0 : decode method_4_code 0 = .ok (.aload 5, 2) := by decide +kernel
theorem d_LAW_put_2 : decode method_4_code 2 = .ok (.iconst 0, 1) := by decide +kernel
theorem d_LAW_put_3 : decode method_4_code 3 = .ok (.aload_n 0, 1) := by decide +kernel
theorem d_LAW_put_4 : decode method_4_code 4 = .ok (.iload_n 1, 1) := by decide +kernel
theorem d_LAW_put_5 : decode method_4_code 5 = .ok (.iload_n 2, 1) := by decide +kernel
theorem d_LAW_put_6 : decode method_4_code 6 = .ok (.iload_n 3, 1) := by decide +kernel
theorem d_LAW_put_7 : decode method_4_code 7 = .ok (.iload 4, 2) := by decide +kernel
theorem d_LAW_put_9 : decode method_4_code 9 = .ok (.invokevirtual 15, 3) := by decide +kernel
theorem d_LAW_put_12 : decode method_4_code 12 = .ok (.i2l, 1) := by decide +kernel
theorem d_LAW_put_13 : decode method_4_code 13 = .ok (.lastore, 1) := by decide +kernel
theorem d_LAW_put_14 : decode method_4_code 14 = .ok (.goto 15, 3) := by decide +kernel
theorem d_LAW_put_17 : decode method_4_code 17 = .ok (.astore 6, 2) := by decide +kernel
theorem d_LAW_put_19 : decode method_4_code 19 = .ok (.iconst 1, 1) := by decide +kernel
theorem d_LAW_put_20 : decode method_4_code 20 = .ok (.ireturn, 1) := by decide +kernel
theorem d_LAW_put_21 : decode method_4_code 21 = .ok (.astore 6, 2) := by decide +kernel
theorem d_LAW_put_23 : decode method_4_code 23 = .ok (.iconst 2, 1) := by decide +kernel
theorem d_LAW_put_24 : decode method_4_code 24 = .ok (.ireturn, 1) := by decide +kernel
theorem d_LAW_put_25 : decode method_4_code 25 = .ok (.astore 6, 2) := by decide +kernel
theorem d_LAW_put_27 : decode method_4_code 27 = .ok (.iconst 3, 1) := by decide +kernel
theorem d_LAW_put_28 : decode method_4_code 28 = .ok (.ireturn, 1) := by decide +kernel
theorem d_LAW_put_29 : decode method_4_code 29 = .ok (.iconst 0, 1) := by decide +kernel
theorem d_LAW_put_30 : decode method_4_code 30 = .ok (.ireturn, 1) := by decide +kernel
set_option maxHeartbeats 4000000 in
set_option maxRecDepth 100000 in
theorem h_put {l : Launch} {D : va_G} {G : GC} {ad : Nat → Nat} (p1 : Int32) (p2 : Int32) (p3 : Int32) (p4 : Int32) (σ : Mem) {k : Int32} {σ1 : Mem} (hk : HRes [(1, 1), (2, 2), (3, 3)] (xrIM (f_LF_put 0 p1 p2 p3 p4 σ)) k σ1) : CtrH l D G ad ⟨"LineFramesLaw", "put", "(LLineFrames;IIII[J)I"⟩ method_4_code 7 [(0, 14, 17, 18), (0, 14, 21, 20), (0, 14, 25, 13)] 8 136 [.ref (ad 0), .int p1, .int p2, .int p3, .int p4, .ref (ad 82)] σ k σ1 := by
  refine ctrH_of (by decide +kernel) rfl (Nat.le_of_ble_eq_true rfl) (fun p e s m below meth c ls C hl => ?_)
  have hl : lv_has ls 7 [(0, .ref (ad 0)), (1, .int p1), (2, .int p2), (3, .int p3), (4, .int p4), (5, .ref (ad 82))] := hl
  refine lv_aload C.1 C.2.1 d_LAW_put_0 (lv_at hl 5 rfl) ?_
  refine lv_iconst (v := 0) C.1 C.2.1 d_LAW_put_2 (by decide) ?_
  refine lv_aload_n C.1 C.2.1 d_LAW_put_3 rfl (lv_at hl 0 rfl) ?_
  refine lv_iload_n C.1 C.2.1 d_LAW_put_4 rfl (lv_at hl 1 rfl) ?_
  refine lv_iload_n C.1 C.2.1 d_LAW_put_5 rfl (lv_at hl 2 rfl) ?_
  refine lv_iload_n C.1 C.2.1 d_LAW_put_6 rfl (lv_at hl 3 rfl) ?_
  refine lv_iload C.1 C.2.1 d_LAW_put_7 (lv_at hl 4 rfl) ?_
  refine hp_call C mv_LAW_15 (As := [.int p1, .int p2, .int p3, .int p4]) rfl (c_LF_put i00 p1 p2 p3 p4 σ) (by decide) d_LAW_put_9 hl.1 [((0, 14, 17, 18), 1), ((0, 14, 21, 20), 2), ((0, 14, 25, 13), 3)] rfl (by
      intro x hx
      simp only [List.mem_cons, List.not_mem_nil, or_false] at hx
      rcases hx with rfl | rfl | rfl
      · exact ⟨by decide, by decide, by decide, (List.mem_of_getElem? (i := 777) (by decide +kernel))⟩
      · exact ⟨by decide, by decide, by decide, (List.mem_of_getElem? (i := 778) (by decide +kernel))⟩
      · exact ⟨by decide, by decide, by decide, (List.mem_of_getElem? (i := 697) (by decide +kernel))⟩) hcast4 (fun r σ2 H1 locs1 hρ hP hS => ?_) (xrIM_n (f_LF_put 0 p1 p2 p3 p4 σ)) (xrIM_v (f_LF_put 0 p1 p2 p3 p4 σ)) (fun n σ2 hρ => ?_)
  · rcases hk with ⟨r1, σ3, e1, rfl, rfl⟩ | ⟨n1, e1, -⟩
    · cases hρ.symm.trans e1
      refine hp_out C hP hS d_LAW_put_12 d_LAW_put_13 (fun H1 locs1 hP hS => ?_)
      refine lv_goto (tgt := 29) C.1 C.2.1 d_LAW_put_14 (by decide) ?_
      exact hp_ret C hP hS (by decide) (by decide) d_LAW_put_29 rfl d_LAW_put_30
    · cases hρ.symm.trans e1
  · rcases hk with ⟨r1, σ3, e1, -, -⟩ | ⟨n1, e1, hm⟩
    · cases hρ.symm.trans e1
    · cases hρ.symm.trans e1
      simp only [List.mem_cons, Prod.mk.injEq, List.not_mem_nil, or_false] at hm
      rcases hm with ⟨rfl, rfl⟩ | ⟨rfl, rfl⟩ | ⟨rfl, rfl⟩
      · refine ⟨by decide, 17, rfl, fun q H1 locs1 hP hS => ?_⟩
        refine lv_astore C.1 C.2.1 d_LAW_put_17 hl (by decide) rfl (fun ls2 _ => ?_)
        exact hp_ret C hP hS (by decide) (by decide) d_LAW_put_19 rfl d_LAW_put_20
      · refine ⟨by decide, 21, rfl, fun q H1 locs1 hP hS => ?_⟩
        refine lv_astore C.1 C.2.1 d_LAW_put_21 hl (by decide) rfl (fun ls2 _ => ?_)
        exact hp_ret C hP hS (by decide) (by decide) d_LAW_put_23 rfl d_LAW_put_24
      · refine ⟨by decide, 25, rfl, fun q H1 locs1 hP hS => ?_⟩
        refine lv_astore C.1 C.2.1 d_LAW_put_25 hl (by decide) rfl (fun ls2 _ => ?_)
        exact hp_ret C hP hS (by decide) (by decide) d_LAW_put_27 rfl d_LAW_put_28
theorem d_LAW_preset_0 : decode method_5_code 0 = .ok (.aload_n 3, 1) := by decide +kernel
theorem d_LAW_preset_1 : decode method_5_code 1 = .ok (.iconst 0, 1) := by decide +kernel
theorem d_LAW_preset_2 : decode method_5_code 2 = .ok (.aload_n 0, 1) := by decide +kernel
theorem d_LAW_preset_3 : decode method_5_code 3 = .ok (.iload_n 1, 1) := by decide +kernel
theorem d_LAW_preset_4 : decode method_5_code 4 = .ok (.iload_n 2, 1) := by decide +kernel
theorem d_LAW_preset_5 : decode method_5_code 5 = .ok (.invokevirtual 22, 3) := by decide +kernel
theorem d_LAW_preset_8 : decode method_5_code 8 = .ok (.i2l, 1) := by decide +kernel
theorem d_LAW_preset_9 : decode method_5_code 9 = .ok (.lastore, 1) := by decide +kernel
theorem d_LAW_preset_10 : decode method_5_code 10 = .ok (.goto 11, 3) := by decide +kernel
theorem d_LAW_preset_13 : decode method_5_code 13 = .ok (.astore 4, 2) := by decide +kernel
theorem d_LAW_preset_15 : decode method_5_code 15 = .ok (.iconst 1, 1) := by decide +kernel
theorem d_LAW_preset_16 : decode method_5_code 16 = .ok (.ireturn, 1) := by decide +kernel
theorem d_LAW_preset_17 : decode method_5_code 17 = .ok (.astore 4, 2) := by decide +kernel
theorem d_LAW_preset_19 : decode method_5_code 19 = .ok (.iconst 2, 1) := by decide +kernel
theorem d_LAW_preset_20 : decode method_5_code 20 = .ok (.ireturn, 1) := by decide +kernel
theorem d_LAW_preset_21 : decode method_5_code 21 = .ok (.iconst 0, 1) := by decide +kernel
theorem d_LAW_preset_22 : decode method_5_code 22 = .ok (.ireturn, 1) := by decide +kernel
set_option maxHeartbeats 4000000 in
set_option maxRecDepth 100000 in
theorem h_preset {l : Launch} {D : va_G} {G : GC} {ad : Nat → Nat} (p1 : Int32) (p2 : Int32) (σ : Mem) {k : Int32} {σ1 : Mem} (hk : HRes [(1, 1), (3, 2)] (xrIM (f_LF_preset 0 p1 p2 σ)) k σ1) : CtrH l D G ad ⟨"LineFramesLaw", "preset", "(LLineFrames;II[J)I"⟩ method_5_code 5 [(0, 10, 13, 18), (0, 10, 17, 13)] 8 133 [.ref (ad 0), .int p1, .int p2, .ref (ad 82)] σ k σ1 := by
  refine ctrH_of (by decide +kernel) rfl (Nat.le_of_ble_eq_true rfl) (fun p e s m below meth c ls C hl => ?_)
  have hl : lv_has ls 5 [(0, .ref (ad 0)), (1, .int p1), (2, .int p2), (3, .ref (ad 82))] := hl
  refine lv_aload_n C.1 C.2.1 d_LAW_preset_0 rfl (lv_at hl 3 rfl) ?_
  refine lv_iconst (v := 0) C.1 C.2.1 d_LAW_preset_1 (by decide) ?_
  refine lv_aload_n C.1 C.2.1 d_LAW_preset_2 rfl (lv_at hl 0 rfl) ?_
  refine lv_iload_n C.1 C.2.1 d_LAW_preset_3 rfl (lv_at hl 1 rfl) ?_
  refine lv_iload_n C.1 C.2.1 d_LAW_preset_4 rfl (lv_at hl 2 rfl) ?_
  refine hp_call C mv_LAW_22 (As := [.int p1, .int p2]) rfl (c_LF_preset i00 p1 p2 σ) (by decide) d_LAW_preset_5 hl.1 [((0, 10, 13, 18), 1), ((0, 10, 17, 13), 3)] rfl (by
      intro x hx
      simp only [List.mem_cons, List.not_mem_nil, or_false] at hx
      rcases hx with rfl | rfl
      · exact ⟨by decide, by decide, by decide, (List.mem_of_getElem? (i := 777) (by decide +kernel))⟩
      · exact ⟨by decide, by decide, by decide, (List.mem_of_getElem? (i := 697) (by decide +kernel))⟩) hcast4 (fun r σ2 H1 locs1 hρ hP hS => ?_) (xrIM_n (f_LF_preset 0 p1 p2 σ)) (xrIM_v (f_LF_preset 0 p1 p2 σ)) (fun n σ2 hρ => ?_)
  · rcases hk with ⟨r1, σ3, e1, rfl, rfl⟩ | ⟨n1, e1, -⟩
    · cases hρ.symm.trans e1
      refine hp_out C hP hS d_LAW_preset_8 d_LAW_preset_9 (fun H1 locs1 hP hS => ?_)
      refine lv_goto (tgt := 21) C.1 C.2.1 d_LAW_preset_10 (by decide) ?_
      exact hp_ret C hP hS (by decide) (by decide) d_LAW_preset_21 rfl d_LAW_preset_22
    · cases hρ.symm.trans e1
  · rcases hk with ⟨r1, σ3, e1, -, -⟩ | ⟨n1, e1, hm⟩
    · cases hρ.symm.trans e1
    · cases hρ.symm.trans e1
      simp only [List.mem_cons, Prod.mk.injEq, List.not_mem_nil, or_false] at hm
      rcases hm with ⟨rfl, rfl⟩ | ⟨rfl, rfl⟩
      · refine ⟨by decide, 13, rfl, fun q H1 locs1 hP hS => ?_⟩
        refine lv_astore C.1 C.2.1 d_LAW_preset_13 hl (by decide) rfl (fun ls2 _ => ?_)
        exact hp_ret C hP hS (by decide) (by decide) d_LAW_preset_15 rfl d_LAW_preset_16
      · refine ⟨by decide, 17, rfl, fun q H1 locs1 hP hS => ?_⟩
        refine lv_astore C.1 C.2.1 d_LAW_preset_17 hl (by decide) rfl (fun ls2 _ => ?_)
        exact hp_ret C hP hS (by decide) (by decide) d_LAW_preset_19 rfl d_LAW_preset_20
theorem d_LAW_table_0 : decode method_6_code 0 = .ok (.aload 4, 2) := by decide +kernel
theorem d_LAW_table_2 : decode method_6_code 2 = .ok (.iconst 0, 1) := by decide +kernel
theorem d_LAW_table_3 : decode method_6_code 3 = .ok (.aload_n 0, 1) := by decide +kernel
theorem d_LAW_table_4 : decode method_6_code 4 = .ok (.iload_n 1, 1) := by decide +kernel
theorem d_LAW_table_5 : decode method_6_code 5 = .ok (.iload_n 2, 1) := by decide +kernel
theorem d_LAW_table_6 : decode method_6_code 6 = .ok (.iload_n 3, 1) := by decide +kernel
theorem d_LAW_table_7 : decode method_6_code 7 = .ok (.invokevirtual 26, 3) := by decide +kernel
theorem d_LAW_table_10 : decode method_6_code 10 = .ok (.i2l, 1) := by decide +kernel
theorem d_LAW_table_11 : decode method_6_code 11 = .ok (.lastore, 1) := by decide +kernel
theorem d_LAW_table_12 : decode method_6_code 12 = .ok (.goto 15, 3) := by decide +kernel
theorem d_LAW_table_15 : decode method_6_code 15 = .ok (.astore 5, 2) := by decide +kernel
theorem d_LAW_table_17 : decode method_6_code 17 = .ok (.iconst 1, 1) := by decide +kernel
theorem d_LAW_table_18 : decode method_6_code 18 = .ok (.ireturn, 1) := by decide +kernel
theorem d_LAW_table_19 : decode method_6_code 19 = .ok (.astore 5, 2) := by decide +kernel
theorem d_LAW_table_21 : decode method_6_code 21 = .ok (.iconst 2, 1) := by decide +kernel
theorem d_LAW_table_22 : decode method_6_code 22 = .ok (.ireturn, 1) := by decide +kernel
theorem d_LAW_table_23 : decode method_6_code 23 = .ok (.astore 5, 2) := by decide +kernel
theorem d_LAW_table_25 : decode method_6_code 25 = .ok (.iconst 3, 1) := by decide +kernel
theorem d_LAW_table_26 : decode method_6_code 26 = .ok (.ireturn, 1) := by decide +kernel
theorem d_LAW_table_27 : decode method_6_code 27 = .ok (.iconst 0, 1) := by decide +kernel
theorem d_LAW_table_28 : decode method_6_code 28 = .ok (.ireturn, 1) := by decide +kernel
set_option maxHeartbeats 4000000 in
set_option maxRecDepth 100000 in
theorem h_table {l : Launch} {D : va_G} {G : GC} {ad : Nat → Nat} (p1 : Int32) (p2 : Int32) (p3 : Int32) (σ : Mem) {t : (Int32 ⊕ Nat) × Mem} (ht : f_LF_table 0 p1 p2 p3 σ = some t) {k : Int32} {σ1 : Mem} (hk : HRes [(1, 1), (2, 2), (3, 3)] (xrIM t) k σ1) : CtrH l D G ad ⟨"LineFramesLaw", "table", "(LLineFrames;III[J)I"⟩ method_6_code 6 [(0, 12, 15, 18), (0, 12, 19, 20), (0, 12, 23, 13)] 8 134 [.ref (ad 0), .int p1, .int p2, .int p3, .ref (ad 82)] σ k σ1 := by
  refine ctrH_of (by decide +kernel) rfl (Nat.le_of_ble_eq_true rfl) (fun p e s m below meth c ls C hl => ?_)
  have hl : lv_has ls 6 [(0, .ref (ad 0)), (1, .int p1), (2, .int p2), (3, .int p3), (4, .ref (ad 82))] := hl
  refine lv_aload C.1 C.2.1 d_LAW_table_0 (lv_at hl 4 rfl) ?_
  refine lv_iconst (v := 0) C.1 C.2.1 d_LAW_table_2 (by decide) ?_
  refine lv_aload_n C.1 C.2.1 d_LAW_table_3 rfl (lv_at hl 0 rfl) ?_
  refine lv_iload_n C.1 C.2.1 d_LAW_table_4 rfl (lv_at hl 1 rfl) ?_
  refine lv_iload_n C.1 C.2.1 d_LAW_table_5 rfl (lv_at hl 2 rfl) ?_
  refine lv_iload_n C.1 C.2.1 d_LAW_table_6 rfl (lv_at hl 3 rfl) ?_
  refine hp_call C mv_LAW_26 (As := [.int p1, .int p2, .int p3]) rfl (c_LF_table i00 p1 p2 p3 σ ht) (by decide) d_LAW_table_7 hl.1 [((0, 12, 15, 18), 1), ((0, 12, 19, 20), 2), ((0, 12, 23, 13), 3)] rfl (by
      intro x hx
      simp only [List.mem_cons, List.not_mem_nil, or_false] at hx
      rcases hx with rfl | rfl | rfl
      · exact ⟨by decide, by decide, by decide, (List.mem_of_getElem? (i := 777) (by decide +kernel))⟩
      · exact ⟨by decide, by decide, by decide, (List.mem_of_getElem? (i := 778) (by decide +kernel))⟩
      · exact ⟨by decide, by decide, by decide, (List.mem_of_getElem? (i := 697) (by decide +kernel))⟩) hcast4 (fun r σ2 H1 locs1 hρ hP hS => ?_) (xrIM_n t) (xrIM_v t) (fun n σ2 hρ => ?_)
  · rcases hk with ⟨r1, σ3, e1, rfl, rfl⟩ | ⟨n1, e1, -⟩
    · cases hρ.symm.trans e1
      refine hp_out C hP hS d_LAW_table_10 d_LAW_table_11 (fun H1 locs1 hP hS => ?_)
      refine lv_goto (tgt := 27) C.1 C.2.1 d_LAW_table_12 (by decide) ?_
      exact hp_ret C hP hS (by decide) (by decide) d_LAW_table_27 rfl d_LAW_table_28
    · cases hρ.symm.trans e1
  · rcases hk with ⟨r1, σ3, e1, -, -⟩ | ⟨n1, e1, hm⟩
    · cases hρ.symm.trans e1
    · cases hρ.symm.trans e1
      simp only [List.mem_cons, Prod.mk.injEq, List.not_mem_nil, or_false] at hm
      rcases hm with ⟨rfl, rfl⟩ | ⟨rfl, rfl⟩ | ⟨rfl, rfl⟩
      · refine ⟨by decide, 15, rfl, fun q H1 locs1 hP hS => ?_⟩
        refine lv_astore C.1 C.2.1 d_LAW_table_15 hl (by decide) rfl (fun ls2 _ => ?_)
        exact hp_ret C hP hS (by decide) (by decide) d_LAW_table_17 rfl d_LAW_table_18
      · refine ⟨by decide, 19, rfl, fun q H1 locs1 hP hS => ?_⟩
        refine lv_astore C.1 C.2.1 d_LAW_table_19 hl (by decide) rfl (fun ls2 _ => ?_)
        exact hp_ret C hP hS (by decide) (by decide) d_LAW_table_21 rfl d_LAW_table_22
      · refine ⟨by decide, 23, rfl, fun q H1 locs1 hP hS => ?_⟩
        refine lv_astore C.1 C.2.1 d_LAW_table_23 hl (by decide) rfl (fun ls2 _ => ?_)
        exact hp_ret C hP hS (by decide) (by decide) d_LAW_table_25 rfl d_LAW_table_26
theorem d_LAW_note_0 : decode method_7_code 0 = .ok (.aload_n 2, 1) := by decide +kernel
theorem d_LAW_note_1 : decode method_7_code 1 = .ok (.iconst 0, 1) := by decide +kernel
theorem d_LAW_note_2 : decode method_7_code 2 = .ok (.aload_n 0, 1) := by decide +kernel
theorem d_LAW_note_3 : decode method_7_code 3 = .ok (.iload_n 1, 1) := by decide +kernel
theorem d_LAW_note_4 : decode method_7_code 4 = .ok (.invokevirtual 30, 3) := by decide +kernel
theorem d_LAW_note_7 : decode method_7_code 7 = .ok (.i2l, 1) := by decide +kernel
theorem d_LAW_note_8 : decode method_7_code 8 = .ok (.lastore, 1) := by decide +kernel
theorem d_LAW_note_9 : decode method_7_code 9 = .ok (.goto 12, 3) := by decide +kernel
theorem d_LAW_note_12 : decode method_7_code 12 = .ok (.astore_n 3, 1) := by decide +kernel
theorem d_LAW_note_13 : decode method_7_code 13 = .ok (.iconst 1, 1) := by decide +kernel
theorem d_LAW_note_14 : decode method_7_code 14 = .ok (.ireturn, 1) := by decide +kernel
theorem d_LAW_note_15 : decode method_7_code 15 = .ok (.astore_n 3, 1) := by decide +kernel
theorem d_LAW_note_16 : decode method_7_code 16 = .ok (.iconst 2, 1) := by decide +kernel
theorem d_LAW_note_17 : decode method_7_code 17 = .ok (.ireturn, 1) := by decide +kernel
theorem d_LAW_note_18 : decode method_7_code 18 = .ok (.astore_n 3, 1) := by decide +kernel
theorem d_LAW_note_19 : decode method_7_code 19 = .ok (.iconst 3, 1) := by decide +kernel
theorem d_LAW_note_20 : decode method_7_code 20 = .ok (.ireturn, 1) := by decide +kernel
theorem d_LAW_note_21 : decode method_7_code 21 = .ok (.iconst 0, 1) := by decide +kernel
theorem d_LAW_note_22 : decode method_7_code 22 = .ok (.ireturn, 1) := by decide +kernel
set_option maxHeartbeats 4000000 in
set_option maxRecDepth 100000 in
theorem h_note {l : Launch} {D : va_G} {G : GC} {ad : Nat → Nat} (p1 : Int32) (σ : Mem) {k : Int32} {σ1 : Mem} (hk : HRes [(1, 1), (3, 2), (4, 3)] (xrIM (f_LF_note 0 p1 σ)) k σ1) : CtrH l D G ad ⟨"LineFramesLaw", "note", "(LLineFrames;I[J)I"⟩ method_7_code 4 [(0, 9, 12, 18), (0, 9, 15, 13), (0, 9, 18, 34)] 8 131 [.ref (ad 0), .int p1, .ref (ad 82)] σ k σ1 := by
  refine ctrH_of (by decide +kernel) rfl (Nat.le_of_ble_eq_true rfl) (fun p e s m below meth c ls C hl => ?_)
  have hl : lv_has ls 4 [(0, .ref (ad 0)), (1, .int p1), (2, .ref (ad 82))] := hl
  refine lv_aload_n C.1 C.2.1 d_LAW_note_0 rfl (lv_at hl 2 rfl) ?_
  refine lv_iconst (v := 0) C.1 C.2.1 d_LAW_note_1 (by decide) ?_
  refine lv_aload_n C.1 C.2.1 d_LAW_note_2 rfl (lv_at hl 0 rfl) ?_
  refine lv_iload_n C.1 C.2.1 d_LAW_note_3 rfl (lv_at hl 1 rfl) ?_
  refine hp_call C mv_LAW_30 (As := [.int p1]) rfl (c_LF_note i00 p1 σ) (by decide) d_LAW_note_4 hl.1 [((0, 9, 12, 18), 1), ((0, 9, 15, 13), 3), ((0, 9, 18, 34), 4)] rfl (by
      intro x hx
      simp only [List.mem_cons, List.not_mem_nil, or_false] at hx
      rcases hx with rfl | rfl | rfl
      · exact ⟨by decide, by decide, by decide, (List.mem_of_getElem? (i := 777) (by decide +kernel))⟩
      · exact ⟨by decide, by decide, by decide, (List.mem_of_getElem? (i := 697) (by decide +kernel))⟩
      · exact ⟨by decide, by decide, by decide, (List.mem_of_getElem? (i := 863) (by decide +kernel))⟩) hcast4 (fun r σ2 H1 locs1 hρ hP hS => ?_) (xrIM_n (f_LF_note 0 p1 σ)) (xrIM_v (f_LF_note 0 p1 σ)) (fun n σ2 hρ => ?_)
  · rcases hk with ⟨r1, σ3, e1, rfl, rfl⟩ | ⟨n1, e1, -⟩
    · cases hρ.symm.trans e1
      refine hp_out C hP hS d_LAW_note_7 d_LAW_note_8 (fun H1 locs1 hP hS => ?_)
      refine lv_goto (tgt := 21) C.1 C.2.1 d_LAW_note_9 (by decide) ?_
      exact hp_ret C hP hS (by decide) (by decide) d_LAW_note_21 rfl d_LAW_note_22
    · cases hρ.symm.trans e1
  · rcases hk with ⟨r1, σ3, e1, -, -⟩ | ⟨n1, e1, hm⟩
    · cases hρ.symm.trans e1
    · cases hρ.symm.trans e1
      simp only [List.mem_cons, Prod.mk.injEq, List.not_mem_nil, or_false] at hm
      rcases hm with ⟨rfl, rfl⟩ | ⟨rfl, rfl⟩ | ⟨rfl, rfl⟩
      · refine ⟨by decide, 12, rfl, fun q H1 locs1 hP hS => ?_⟩
        refine lv_astore_n C.1 C.2.1 d_LAW_note_12 rfl hl (by decide) rfl (fun ls2 _ => ?_)
        exact hp_ret C hP hS (by decide) (by decide) d_LAW_note_13 rfl d_LAW_note_14
      · refine ⟨by decide, 15, rfl, fun q H1 locs1 hP hS => ?_⟩
        refine lv_astore_n C.1 C.2.1 d_LAW_note_15 rfl hl (by decide) rfl (fun ls2 _ => ?_)
        exact hp_ret C hP hS (by decide) (by decide) d_LAW_note_16 rfl d_LAW_note_17
      · refine ⟨by decide, 18, rfl, fun q H1 locs1 hP hS => ?_⟩
        refine lv_astore_n C.1 C.2.1 d_LAW_note_18 rfl hl (by decide) rfl (fun ls2 _ => ?_)
        exact hp_ret C hP hS (by decide) (by decide) d_LAW_note_19 rfl d_LAW_note_20
theorem d_LAW_byteOf_0 : decode method_8_code 0 = .ok (.aload_n 3, 1) := by decide +kernel
theorem d_LAW_byteOf_1 : decode method_8_code 1 = .ok (.iconst 0, 1) := by decide +kernel
theorem d_LAW_byteOf_2 : decode method_8_code 2 = .ok (.aload_n 0, 1) := by decide +kernel
theorem d_LAW_byteOf_3 : decode method_8_code 3 = .ok (.iload_n 1, 1) := by decide +kernel
theorem d_LAW_byteOf_4 : decode method_8_code 4 = .ok (.iload_n 2, 1) := by decide +kernel
theorem d_LAW_byteOf_5 : decode method_8_code 5 = .ok (.invokevirtual 36, 3) := by decide +kernel
theorem d_LAW_byteOf_8 : decode method_8_code 8 = .ok (.i2l, 1) := by decide +kernel
theorem d_LAW_byteOf_9 : decode method_8_code 9 = .ok (.lastore, 1) := by decide +kernel
theorem d_LAW_byteOf_10 : decode method_8_code 10 = .ok (.goto 19, 3) := by decide +kernel
theorem d_LAW_byteOf_13 : decode method_8_code 13 = .ok (.astore 4, 2) := by decide +kernel
theorem d_LAW_byteOf_15 : decode method_8_code 15 = .ok (.iconst 1, 1) := by decide +kernel
theorem d_LAW_byteOf_16 : decode method_8_code 16 = .ok (.ireturn, 1) := by decide +kernel
theorem d_LAW_byteOf_17 : decode method_8_code 17 = .ok (.astore 4, 2) := by decide +kernel
theorem d_LAW_byteOf_19 : decode method_8_code 19 = .ok (.iconst 2, 1) := by decide +kernel
theorem d_LAW_byteOf_20 : decode method_8_code 20 = .ok (.ireturn, 1) := by decide +kernel
theorem d_LAW_byteOf_21 : decode method_8_code 21 = .ok (.astore 4, 2) := by decide +kernel
theorem d_LAW_byteOf_23 : decode method_8_code 23 = .ok (.iconst 3, 1) := by decide +kernel
theorem d_LAW_byteOf_24 : decode method_8_code 24 = .ok (.ireturn, 1) := by decide +kernel
theorem d_LAW_byteOf_25 : decode method_8_code 25 = .ok (.astore 4, 2) := by decide +kernel
theorem d_LAW_byteOf_27 : decode method_8_code 27 = .ok (.iconst 4, 1) := by decide +kernel
theorem d_LAW_byteOf_28 : decode method_8_code 28 = .ok (.ireturn, 1) := by decide +kernel
theorem d_LAW_byteOf_29 : decode method_8_code 29 = .ok (.iconst 0, 1) := by decide +kernel
theorem d_LAW_byteOf_30 : decode method_8_code 30 = .ok (.ireturn, 1) := by decide +kernel
set_option maxHeartbeats 4000000 in
set_option maxRecDepth 100000 in
theorem h_byteOf {l : Launch} {D : va_G} {G : GC} {ad : Nat → Nat} (p1 : Int32) (p2 : Int32) (σ : Mem) {k : Int32} {σ1 : Mem} (hk : HRes [(1, 1), (2, 2), (3, 3), (4, 4)] (xrIM (f_LF_byteOf 0 p1 p2 σ)) k σ1) : CtrH l D G ad ⟨"LineFramesLaw", "byteOf", "(LLineFrames;II[J)I"⟩ method_8_code 5 [(0, 10, 13, 18), (0, 10, 17, 20), (0, 10, 21, 13), (0, 10, 25, 34)] 8 132 [.ref (ad 0), .int p1, .int p2, .ref (ad 82)] σ k σ1 := by
  refine ctrH_of (by decide +kernel) rfl (Nat.le_of_ble_eq_true rfl) (fun p e s m below meth c ls C hl => ?_)
  have hl : lv_has ls 5 [(0, .ref (ad 0)), (1, .int p1), (2, .int p2), (3, .ref (ad 82))] := hl
  refine lv_aload_n C.1 C.2.1 d_LAW_byteOf_0 rfl (lv_at hl 3 rfl) ?_
  refine lv_iconst (v := 0) C.1 C.2.1 d_LAW_byteOf_1 (by decide) ?_
  refine lv_aload_n C.1 C.2.1 d_LAW_byteOf_2 rfl (lv_at hl 0 rfl) ?_
  refine lv_iload_n C.1 C.2.1 d_LAW_byteOf_3 rfl (lv_at hl 1 rfl) ?_
  refine lv_iload_n C.1 C.2.1 d_LAW_byteOf_4 rfl (lv_at hl 2 rfl) ?_
  refine hp_call C mv_LAW_36 (As := [.int p1, .int p2]) rfl (c_LF_byteOf i00 p1 p2 σ) (by decide) d_LAW_byteOf_5 hl.1 [((0, 10, 13, 18), 1), ((0, 10, 17, 20), 2), ((0, 10, 21, 13), 3), ((0, 10, 25, 34), 4)] rfl (by
      intro x hx
      simp only [List.mem_cons, List.not_mem_nil, or_false] at hx
      rcases hx with rfl | rfl | rfl | rfl
      · exact ⟨by decide, by decide, by decide, (List.mem_of_getElem? (i := 777) (by decide +kernel))⟩
      · exact ⟨by decide, by decide, by decide, (List.mem_of_getElem? (i := 778) (by decide +kernel))⟩
      · exact ⟨by decide, by decide, by decide, (List.mem_of_getElem? (i := 697) (by decide +kernel))⟩
      · exact ⟨by decide, by decide, by decide, (List.mem_of_getElem? (i := 863) (by decide +kernel))⟩) hcast4 (fun r σ2 H1 locs1 hρ hP hS => ?_) (xrIM_n (f_LF_byteOf 0 p1 p2 σ)) (xrIM_v (f_LF_byteOf 0 p1 p2 σ)) (fun n σ2 hρ => ?_)
  · rcases hk with ⟨r1, σ3, e1, rfl, rfl⟩ | ⟨n1, e1, -⟩
    · cases hρ.symm.trans e1
      refine hp_out C hP hS d_LAW_byteOf_8 d_LAW_byteOf_9 (fun H1 locs1 hP hS => ?_)
      refine lv_goto (tgt := 29) C.1 C.2.1 d_LAW_byteOf_10 (by decide) ?_
      exact hp_ret C hP hS (by decide) (by decide) d_LAW_byteOf_29 rfl d_LAW_byteOf_30
    · cases hρ.symm.trans e1
  · rcases hk with ⟨r1, σ3, e1, -, -⟩ | ⟨n1, e1, hm⟩
    · cases hρ.symm.trans e1
    · cases hρ.symm.trans e1
      simp only [List.mem_cons, Prod.mk.injEq, List.not_mem_nil, or_false] at hm
      rcases hm with ⟨rfl, rfl⟩ | ⟨rfl, rfl⟩ | ⟨rfl, rfl⟩ | ⟨rfl, rfl⟩
      · refine ⟨by decide, 13, rfl, fun q H1 locs1 hP hS => ?_⟩
        refine lv_astore C.1 C.2.1 d_LAW_byteOf_13 hl (by decide) rfl (fun ls2 _ => ?_)
        exact hp_ret C hP hS (by decide) (by decide) d_LAW_byteOf_15 rfl d_LAW_byteOf_16
      · refine ⟨by decide, 17, rfl, fun q H1 locs1 hP hS => ?_⟩
        refine lv_astore C.1 C.2.1 d_LAW_byteOf_17 hl (by decide) rfl (fun ls2 _ => ?_)
        exact hp_ret C hP hS (by decide) (by decide) d_LAW_byteOf_19 rfl d_LAW_byteOf_20
      · refine ⟨by decide, 21, rfl, fun q H1 locs1 hP hS => ?_⟩
        refine lv_astore C.1 C.2.1 d_LAW_byteOf_21 hl (by decide) rfl (fun ls2 _ => ?_)
        exact hp_ret C hP hS (by decide) (by decide) d_LAW_byteOf_23 rfl d_LAW_byteOf_24
      · refine ⟨by decide, 25, rfl, fun q H1 locs1 hP hS => ?_⟩
        refine lv_astore C.1 C.2.1 d_LAW_byteOf_25 hl (by decide) rfl (fun ls2 _ => ?_)
        exact hp_ret C hP hS (by decide) (by decide) d_LAW_byteOf_27 rfl d_LAW_byteOf_28
theorem d_LAW_write_0 : decode method_9_code 0 = .ok (.aload_n 2, 1) := by decide +kernel
theorem d_LAW_write_1 : decode method_9_code 1 = .ok (.iconst 0, 1) := by decide +kernel
theorem d_LAW_write_2 : decode method_9_code 2 = .ok (.aload_n 0, 1) := by decide +kernel
theorem d_LAW_write_3 : decode method_9_code 3 = .ok (.iload_n 1, 1) := by decide +kernel
theorem d_LAW_write_4 : decode method_9_code 4 = .ok (.invokevirtual 39, 3) := by decide +kernel
theorem d_LAW_write_7 : decode method_9_code 7 = .ok (.i2l, 1) := by decide +kernel
theorem d_LAW_write_8 : decode method_9_code 8 = .ok (.lastore, 1) := by decide +kernel
theorem d_LAW_write_9 : decode method_9_code 9 = .ok (.goto 9, 3) := by decide +kernel
theorem d_LAW_write_12 : decode method_9_code 12 = .ok (.astore_n 3, 1) := by decide +kernel
theorem d_LAW_write_13 : decode method_9_code 13 = .ok (.iconst 1, 1) := by decide +kernel
theorem d_LAW_write_14 : decode method_9_code 14 = .ok (.ireturn, 1) := by decide +kernel
theorem d_LAW_write_15 : decode method_9_code 15 = .ok (.astore_n 3, 1) := by decide +kernel
theorem d_LAW_write_16 : decode method_9_code 16 = .ok (.iconst 2, 1) := by decide +kernel
theorem d_LAW_write_17 : decode method_9_code 17 = .ok (.ireturn, 1) := by decide +kernel
theorem d_LAW_write_18 : decode method_9_code 18 = .ok (.iconst 0, 1) := by decide +kernel
theorem d_LAW_write_19 : decode method_9_code 19 = .ok (.ireturn, 1) := by decide +kernel
set_option maxHeartbeats 4000000 in
set_option maxRecDepth 100000 in
theorem h_write {l : Launch} {D : va_G} {G : GC} {ad : Nat → Nat} (p1 : Int32) (σ : Mem) {t : (Int32 ⊕ Nat) × Mem} (ht : f_LF_write 0 p1 σ = some t) {k : Int32} {σ1 : Mem} (hk : HRes [(1, 1), (3, 2)] (xrIM t) k σ1) : CtrH l D G ad ⟨"LineFramesLaw", "write", "(LLineFrames;I[J)I"⟩ method_9_code 4 [(0, 9, 12, 18), (0, 9, 15, 13)] 8 202 [.ref (ad 0), .int p1, .ref (ad 82)] σ k σ1 := by
  refine ctrH_of (by decide +kernel) rfl (Nat.le_of_ble_eq_true rfl) (fun p e s m below meth c ls C hl => ?_)
  have hl : lv_has ls 4 [(0, .ref (ad 0)), (1, .int p1), (2, .ref (ad 82))] := hl
  refine lv_aload_n C.1 C.2.1 d_LAW_write_0 rfl (lv_at hl 2 rfl) ?_
  refine lv_iconst (v := 0) C.1 C.2.1 d_LAW_write_1 (by decide) ?_
  refine lv_aload_n C.1 C.2.1 d_LAW_write_2 rfl (lv_at hl 0 rfl) ?_
  refine lv_iload_n C.1 C.2.1 d_LAW_write_3 rfl (lv_at hl 1 rfl) ?_
  refine hp_call C mv_LAW_39 (As := [.int p1]) rfl (c_LF_write i00 p1 σ ht) (by decide) d_LAW_write_4 hl.1 [((0, 9, 12, 18), 1), ((0, 9, 15, 13), 3)] rfl (by
      intro x hx
      simp only [List.mem_cons, List.not_mem_nil, or_false] at hx
      rcases hx with rfl | rfl
      · exact ⟨by decide, by decide, by decide, (List.mem_of_getElem? (i := 777) (by decide +kernel))⟩
      · exact ⟨by decide, by decide, by decide, (List.mem_of_getElem? (i := 697) (by decide +kernel))⟩) hcast4 (fun r σ2 H1 locs1 hρ hP hS => ?_) (xrIM_n t) (xrIM_v t) (fun n σ2 hρ => ?_)
  · rcases hk with ⟨r1, σ3, e1, rfl, rfl⟩ | ⟨n1, e1, -⟩
    · cases hρ.symm.trans e1
      refine hp_out C hP hS d_LAW_write_7 d_LAW_write_8 (fun H1 locs1 hP hS => ?_)
      refine lv_goto (tgt := 18) C.1 C.2.1 d_LAW_write_9 (by decide) ?_
      exact hp_ret C hP hS (by decide) (by decide) d_LAW_write_18 rfl d_LAW_write_19
    · cases hρ.symm.trans e1
  · rcases hk with ⟨r1, σ3, e1, -, -⟩ | ⟨n1, e1, hm⟩
    · cases hρ.symm.trans e1
    · cases hρ.symm.trans e1
      simp only [List.mem_cons, Prod.mk.injEq, List.not_mem_nil, or_false] at hm
      rcases hm with ⟨rfl, rfl⟩ | ⟨rfl, rfl⟩
      · refine ⟨by decide, 12, rfl, fun q H1 locs1 hP hS => ?_⟩
        refine lv_astore_n C.1 C.2.1 d_LAW_write_12 rfl hl (by decide) rfl (fun ls2 _ => ?_)
        exact hp_ret C hP hS (by decide) (by decide) d_LAW_write_13 rfl d_LAW_write_14
      · refine ⟨by decide, 15, rfl, fun q H1 locs1 hP hS => ?_⟩
        refine lv_astore_n C.1 C.2.1 d_LAW_write_15 rfl hl (by decide) rfl (fun ls2 _ => ?_)
        exact hp_ret C hP hS (by decide) (by decide) d_LAW_write_16 rfl d_LAW_write_17
theorem d_LAW_byteAt_0 : decode method_10_code 0 = .ok (.aload_n 2, 1) := by decide +kernel
theorem d_LAW_byteAt_1 : decode method_10_code 1 = .ok (.iconst 0, 1) := by decide +kernel
theorem d_LAW_byteAt_2 : decode method_10_code 2 = .ok (.aload_n 0, 1) := by decide +kernel
theorem d_LAW_byteAt_3 : decode method_10_code 3 = .ok (.iload_n 1, 1) := by decide +kernel
theorem d_LAW_byteAt_4 : decode method_10_code 4 = .ok (.invokevirtual 42, 3) := by decide +kernel
theorem d_LAW_byteAt_7 : decode method_10_code 7 = .ok (.i2l, 1) := by decide +kernel
theorem d_LAW_byteAt_8 : decode method_10_code 8 = .ok (.lastore, 1) := by decide +kernel
theorem d_LAW_byteAt_9 : decode method_10_code 9 = .ok (.goto 6, 3) := by decide +kernel
theorem d_LAW_byteAt_12 : decode method_10_code 12 = .ok (.astore_n 3, 1) := by decide +kernel
theorem d_LAW_byteAt_13 : decode method_10_code 13 = .ok (.iconst 1, 1) := by decide +kernel
theorem d_LAW_byteAt_14 : decode method_10_code 14 = .ok (.ireturn, 1) := by decide +kernel
theorem d_LAW_byteAt_15 : decode method_10_code 15 = .ok (.iconst 0, 1) := by decide +kernel
theorem d_LAW_byteAt_16 : decode method_10_code 16 = .ok (.ireturn, 1) := by decide +kernel
set_option maxHeartbeats 4000000 in
set_option maxRecDepth 100000 in
theorem h_byteAt {l : Launch} {D : va_G} {G : GC} {ad : Nat → Nat} (p1 : Int32) (σ : Mem) {k : Int32} {σ1 : Mem} (hk : HRes [(2, 1)] (xrI (f_LF_byteAt 0 p1 σ) σ) k σ1) : CtrH l D G ad ⟨"LineFramesLaw", "byteAt", "(LLineFrames;I[J)I"⟩ method_10_code 4 [(0, 9, 12, 20)] 7 111 [.ref (ad 0), .int p1, .ref (ad 82)] σ k σ1 := by
  refine ctrH_of (by decide +kernel) rfl (Nat.le_of_ble_eq_true rfl) (fun p e s m below meth c ls C hl => ?_)
  have hl : lv_has ls 4 [(0, .ref (ad 0)), (1, .int p1), (2, .ref (ad 82))] := hl
  refine lv_aload_n C.1 C.2.1 d_LAW_byteAt_0 rfl (lv_at hl 2 rfl) ?_
  refine lv_iconst (v := 0) C.1 C.2.1 d_LAW_byteAt_1 (by decide) ?_
  refine lv_aload_n C.1 C.2.1 d_LAW_byteAt_2 rfl (lv_at hl 0 rfl) ?_
  refine lv_iload_n C.1 C.2.1 d_LAW_byteAt_3 rfl (lv_at hl 1 rfl) ?_
  refine hp_call C mv_LAW_42 (As := [.int p1]) rfl (c_LF_byteAt i00 p1 σ) (by decide) d_LAW_byteAt_4 hl.1 [((0, 9, 12, 20), 2)] rfl (by
      intro x hx
      simp only [List.mem_cons, List.not_mem_nil, or_false] at hx
      rcases hx with rfl
      · exact ⟨by decide, by decide, by decide, (List.mem_of_getElem? (i := 778) (by decide +kernel))⟩) hcast4 (fun r σ2 H1 locs1 hρ hP hS => ?_) (xrI_n (f_LF_byteAt 0 p1 σ) σ) (xrI_v (f_LF_byteAt 0 p1 σ) σ) (fun n σ2 hρ => ?_)
  · rcases hk with ⟨r1, σ3, e1, rfl, rfl⟩ | ⟨n1, e1, -⟩
    · cases hρ.symm.trans e1
      refine hp_out C hP hS d_LAW_byteAt_7 d_LAW_byteAt_8 (fun H1 locs1 hP hS => ?_)
      refine lv_goto (tgt := 15) C.1 C.2.1 d_LAW_byteAt_9 (by decide) ?_
      exact hp_ret C hP hS (by decide) (by decide) d_LAW_byteAt_15 rfl d_LAW_byteAt_16
    · cases hρ.symm.trans e1
  · rcases hk with ⟨r1, σ3, e1, -, -⟩ | ⟨n1, e1, hm⟩
    · cases hρ.symm.trans e1
    · cases hρ.symm.trans e1
      simp only [List.mem_cons, Prod.mk.injEq, List.not_mem_nil, or_false] at hm
      rcases hm with ⟨rfl, rfl⟩
      · refine ⟨by decide, 12, rfl, fun q H1 locs1 hP hS => ?_⟩
        refine lv_astore_n C.1 C.2.1 d_LAW_byteAt_12 rfl hl (by decide) rfl (fun ls2 _ => ?_)
        exact hp_ret C hP hS (by decide) (by decide) d_LAW_byteAt_13 rfl d_LAW_byteAt_14
theorem d_LAW_feed_0 : decode method_11_code 0 = .ok (.aload_n 2, 1) := by decide +kernel
theorem d_LAW_feed_1 : decode method_11_code 1 = .ok (.iconst 0, 1) := by decide +kernel
theorem d_LAW_feed_2 : decode method_11_code 2 = .ok (.aload_n 0, 1) := by decide +kernel
theorem d_LAW_feed_3 : decode method_11_code 3 = .ok (.iload_n 1, 1) := by decide +kernel
theorem d_LAW_feed_4 : decode method_11_code 4 = .ok (.invokevirtual 45, 3) := by decide +kernel
theorem d_LAW_feed_7 : decode method_11_code 7 = .ok (.i2l, 1) := by decide +kernel
theorem d_LAW_feed_8 : decode method_11_code 8 = .ok (.lastore, 1) := by decide +kernel
theorem d_LAW_feed_9 : decode method_11_code 9 = .ok (.goto 9, 3) := by decide +kernel
theorem d_LAW_feed_12 : decode method_11_code 12 = .ok (.astore_n 3, 1) := by decide +kernel
theorem d_LAW_feed_13 : decode method_11_code 13 = .ok (.iconst 1, 1) := by decide +kernel
theorem d_LAW_feed_14 : decode method_11_code 14 = .ok (.ireturn, 1) := by decide +kernel
theorem d_LAW_feed_15 : decode method_11_code 15 = .ok (.astore_n 3, 1) := by decide +kernel
theorem d_LAW_feed_16 : decode method_11_code 16 = .ok (.iconst 2, 1) := by decide +kernel
theorem d_LAW_feed_17 : decode method_11_code 17 = .ok (.ireturn, 1) := by decide +kernel
theorem d_LAW_feed_18 : decode method_11_code 18 = .ok (.iconst 0, 1) := by decide +kernel
theorem d_LAW_feed_19 : decode method_11_code 19 = .ok (.ireturn, 1) := by decide +kernel
set_option maxHeartbeats 4000000 in
set_option maxRecDepth 100000 in
theorem h_feed {l : Launch} {D : va_G} {G : GC} {ad : Nat → Nat} (p1 : Int32) (σ : Mem) {k : Int32} {σ1 : Mem} (hk : HRes [(3, 1), (4, 2)] (xrIM (f_LF_feed 0 p1 σ)) k σ1) : CtrH l D G ad ⟨"LineFramesLaw", "feed", "(LLineFrames;I[J)I"⟩ method_11_code 4 [(0, 9, 12, 13), (0, 9, 15, 34)] 8 131 [.ref (ad 0), .int p1, .ref (ad 82)] σ k σ1 := by
  refine ctrH_of (by decide +kernel) rfl (Nat.le_of_ble_eq_true rfl) (fun p e s m below meth c ls C hl => ?_)
  have hl : lv_has ls 4 [(0, .ref (ad 0)), (1, .int p1), (2, .ref (ad 82))] := hl
  refine lv_aload_n C.1 C.2.1 d_LAW_feed_0 rfl (lv_at hl 2 rfl) ?_
  refine lv_iconst (v := 0) C.1 C.2.1 d_LAW_feed_1 (by decide) ?_
  refine lv_aload_n C.1 C.2.1 d_LAW_feed_2 rfl (lv_at hl 0 rfl) ?_
  refine lv_iload_n C.1 C.2.1 d_LAW_feed_3 rfl (lv_at hl 1 rfl) ?_
  refine hp_call C mv_LAW_45 (As := [.int p1]) rfl (c_LF_feed i00 p1 σ) (by decide) d_LAW_feed_4 hl.1 [((0, 9, 12, 13), 3), ((0, 9, 15, 34), 4)] rfl (by
      intro x hx
      simp only [List.mem_cons, List.not_mem_nil, or_false] at hx
      rcases hx with rfl | rfl
      · exact ⟨by decide, by decide, by decide, (List.mem_of_getElem? (i := 697) (by decide +kernel))⟩
      · exact ⟨by decide, by decide, by decide, (List.mem_of_getElem? (i := 863) (by decide +kernel))⟩) hcast4 (fun r σ2 H1 locs1 hρ hP hS => ?_) (xrIM_n (f_LF_feed 0 p1 σ)) (xrIM_v (f_LF_feed 0 p1 σ)) (fun n σ2 hρ => ?_)
  · rcases hk with ⟨r1, σ3, e1, rfl, rfl⟩ | ⟨n1, e1, -⟩
    · cases hρ.symm.trans e1
      refine hp_out C hP hS d_LAW_feed_7 d_LAW_feed_8 (fun H1 locs1 hP hS => ?_)
      refine lv_goto (tgt := 18) C.1 C.2.1 d_LAW_feed_9 (by decide) ?_
      exact hp_ret C hP hS (by decide) (by decide) d_LAW_feed_18 rfl d_LAW_feed_19
    · cases hρ.symm.trans e1
  · rcases hk with ⟨r1, σ3, e1, -, -⟩ | ⟨n1, e1, hm⟩
    · cases hρ.symm.trans e1
    · cases hρ.symm.trans e1
      simp only [List.mem_cons, Prod.mk.injEq, List.not_mem_nil, or_false] at hm
      rcases hm with ⟨rfl, rfl⟩ | ⟨rfl, rfl⟩
      · refine ⟨by decide, 12, rfl, fun q H1 locs1 hP hS => ?_⟩
        refine lv_astore_n C.1 C.2.1 d_LAW_feed_12 rfl hl (by decide) rfl (fun ls2 _ => ?_)
        exact hp_ret C hP hS (by decide) (by decide) d_LAW_feed_13 rfl d_LAW_feed_14
      · refine ⟨by decide, 15, rfl, fun q H1 locs1 hP hS => ?_⟩
        refine lv_astore_n C.1 C.2.1 d_LAW_feed_15 rfl hl (by decide) rfl (fun ls2 _ => ?_)
        exact hp_ret C hP hS (by decide) (by decide) d_LAW_feed_16 rfl d_LAW_feed_17
theorem d_LAW_pass_0 : decode method_12_code 0 = .ok (.aload_n 3, 1) := by decide +kernel
theorem d_LAW_pass_1 : decode method_12_code 1 = .ok (.iconst 0, 1) := by decide +kernel
theorem d_LAW_pass_2 : decode method_12_code 2 = .ok (.aload_n 0, 1) := by decide +kernel
theorem d_LAW_pass_3 : decode method_12_code 3 = .ok (.iload_n 1, 1) := by decide +kernel
theorem d_LAW_pass_4 : decode method_12_code 4 = .ok (.iload_n 2, 1) := by decide +kernel
theorem d_LAW_pass_5 : decode method_12_code 5 = .ok (.invokevirtual 48, 3) := by decide +kernel
theorem d_LAW_pass_8 : decode method_12_code 8 = .ok (.i2l, 1) := by decide +kernel
theorem d_LAW_pass_9 : decode method_12_code 9 = .ok (.lastore, 1) := by decide +kernel
theorem d_LAW_pass_10 : decode method_12_code 10 = .ok (.goto 15, 3) := by decide +kernel
theorem d_LAW_pass_13 : decode method_12_code 13 = .ok (.astore 4, 2) := by decide +kernel
theorem d_LAW_pass_15 : decode method_12_code 15 = .ok (.iconst 1, 1) := by decide +kernel
theorem d_LAW_pass_16 : decode method_12_code 16 = .ok (.ireturn, 1) := by decide +kernel
theorem d_LAW_pass_17 : decode method_12_code 17 = .ok (.astore 4, 2) := by decide +kernel
theorem d_LAW_pass_19 : decode method_12_code 19 = .ok (.iconst 2, 1) := by decide +kernel
theorem d_LAW_pass_20 : decode method_12_code 20 = .ok (.ireturn, 1) := by decide +kernel
theorem d_LAW_pass_21 : decode method_12_code 21 = .ok (.astore 4, 2) := by decide +kernel
theorem d_LAW_pass_23 : decode method_12_code 23 = .ok (.iconst 3, 1) := by decide +kernel
theorem d_LAW_pass_24 : decode method_12_code 24 = .ok (.ireturn, 1) := by decide +kernel
theorem d_LAW_pass_25 : decode method_12_code 25 = .ok (.iconst 0, 1) := by decide +kernel
theorem d_LAW_pass_26 : decode method_12_code 26 = .ok (.ireturn, 1) := by decide +kernel
set_option maxHeartbeats 4000000 in
set_option maxRecDepth 100000 in
theorem h_pass {l : Launch} {D : va_G} {G : GC} {ad : Nat → Nat} (p1 : Int32) (p2 : Int32) (σ : Mem) {t : (Int32 ⊕ Nat) × Mem} (ht : f_LF_pass 0 p1 p2 σ = some t) {k : Int32} {σ1 : Mem} (hk : HRes [(2, 1), (3, 2), (4, 3)] (xrIM t) k σ1) : CtrH l D G ad ⟨"LineFramesLaw", "pass", "(LLineFrames;II[J)I"⟩ method_12_code 5 [(0, 10, 13, 20), (0, 10, 17, 13), (0, 10, 21, 34)] 7 114 [.ref (ad 0), .int p1, .int p2, .ref (ad 82)] σ k σ1 := by
  refine ctrH_of (by decide +kernel) rfl (Nat.le_of_ble_eq_true rfl) (fun p e s m below meth c ls C hl => ?_)
  have hl : lv_has ls 5 [(0, .ref (ad 0)), (1, .int p1), (2, .int p2), (3, .ref (ad 82))] := hl
  refine lv_aload_n C.1 C.2.1 d_LAW_pass_0 rfl (lv_at hl 3 rfl) ?_
  refine lv_iconst (v := 0) C.1 C.2.1 d_LAW_pass_1 (by decide) ?_
  refine lv_aload_n C.1 C.2.1 d_LAW_pass_2 rfl (lv_at hl 0 rfl) ?_
  refine lv_iload_n C.1 C.2.1 d_LAW_pass_3 rfl (lv_at hl 1 rfl) ?_
  refine lv_iload_n C.1 C.2.1 d_LAW_pass_4 rfl (lv_at hl 2 rfl) ?_
  refine hp_call C mv_LAW_48 (As := [.int p1, .int p2]) rfl (c_LF_pass i00 p1 p2 σ ht) (by decide) d_LAW_pass_5 hl.1 [((0, 10, 13, 20), 2), ((0, 10, 17, 13), 3), ((0, 10, 21, 34), 4)] rfl (by
      intro x hx
      simp only [List.mem_cons, List.not_mem_nil, or_false] at hx
      rcases hx with rfl | rfl | rfl
      · exact ⟨by decide, by decide, by decide, (List.mem_of_getElem? (i := 778) (by decide +kernel))⟩
      · exact ⟨by decide, by decide, by decide, (List.mem_of_getElem? (i := 697) (by decide +kernel))⟩
      · exact ⟨by decide, by decide, by decide, (List.mem_of_getElem? (i := 863) (by decide +kernel))⟩) hcast4 (fun r σ2 H1 locs1 hρ hP hS => ?_) (xrIM_n t) (xrIM_v t) (fun n σ2 hρ => ?_)
  · rcases hk with ⟨r1, σ3, e1, rfl, rfl⟩ | ⟨n1, e1, -⟩
    · cases hρ.symm.trans e1
      refine hp_out C hP hS d_LAW_pass_8 d_LAW_pass_9 (fun H1 locs1 hP hS => ?_)
      refine lv_goto (tgt := 25) C.1 C.2.1 d_LAW_pass_10 (by decide) ?_
      exact hp_ret C hP hS (by decide) (by decide) d_LAW_pass_25 rfl d_LAW_pass_26
    · cases hρ.symm.trans e1
  · rcases hk with ⟨r1, σ3, e1, -, -⟩ | ⟨n1, e1, hm⟩
    · cases hρ.symm.trans e1
    · cases hρ.symm.trans e1
      simp only [List.mem_cons, Prod.mk.injEq, List.not_mem_nil, or_false] at hm
      rcases hm with ⟨rfl, rfl⟩ | ⟨rfl, rfl⟩ | ⟨rfl, rfl⟩
      · refine ⟨by decide, 13, rfl, fun q H1 locs1 hP hS => ?_⟩
        refine lv_astore C.1 C.2.1 d_LAW_pass_13 hl (by decide) rfl (fun ls2 _ => ?_)
        exact hp_ret C hP hS (by decide) (by decide) d_LAW_pass_15 rfl d_LAW_pass_16
      · refine ⟨by decide, 17, rfl, fun q H1 locs1 hP hS => ?_⟩
        refine lv_astore C.1 C.2.1 d_LAW_pass_17 hl (by decide) rfl (fun ls2 _ => ?_)
        exact hp_ret C hP hS (by decide) (by decide) d_LAW_pass_19 rfl d_LAW_pass_20
      · refine ⟨by decide, 21, rfl, fun q H1 locs1 hP hS => ?_⟩
        refine lv_astore C.1 C.2.1 d_LAW_pass_21 hl (by decide) rfl (fun ls2 _ => ?_)
        exact hp_ret C hP hS (by decide) (by decide) d_LAW_pass_23 rfl d_LAW_pass_24
theorem d_LAW_alter_0 : decode method_13_code 0 = .ok (.aload_n 3, 1) := by decide +kernel
theorem d_LAW_alter_1 : decode method_13_code 1 = .ok (.iconst 0, 1) := by decide +kernel
theorem d_LAW_alter_2 : decode method_13_code 2 = .ok (.aload_n 0, 1) := by decide +kernel
theorem d_LAW_alter_3 : decode method_13_code 3 = .ok (.iload_n 1, 1) := by decide +kernel
theorem d_LAW_alter_4 : decode method_13_code 4 = .ok (.iload_n 2, 1) := by decide +kernel
theorem d_LAW_alter_5 : decode method_13_code 5 = .ok (.invokevirtual 51, 3) := by decide +kernel
theorem d_LAW_alter_8 : decode method_13_code 8 = .ok (.i2l, 1) := by decide +kernel
theorem d_LAW_alter_9 : decode method_13_code 9 = .ok (.lastore, 1) := by decide +kernel
theorem d_LAW_alter_10 : decode method_13_code 10 = .ok (.goto 11, 3) := by decide +kernel
theorem d_LAW_alter_13 : decode method_13_code 13 = .ok (.astore 4, 2) := by decide +kernel
theorem d_LAW_alter_15 : decode method_13_code 15 = .ok (.iconst 1, 1) := by decide +kernel
theorem d_LAW_alter_16 : decode method_13_code 16 = .ok (.ireturn, 1) := by decide +kernel
theorem d_LAW_alter_17 : decode method_13_code 17 = .ok (.astore 4, 2) := by decide +kernel
theorem d_LAW_alter_19 : decode method_13_code 19 = .ok (.iconst 2, 1) := by decide +kernel
theorem d_LAW_alter_20 : decode method_13_code 20 = .ok (.ireturn, 1) := by decide +kernel
theorem d_LAW_alter_21 : decode method_13_code 21 = .ok (.iconst 0, 1) := by decide +kernel
theorem d_LAW_alter_22 : decode method_13_code 22 = .ok (.ireturn, 1) := by decide +kernel
set_option maxHeartbeats 4000000 in
set_option maxRecDepth 100000 in
theorem h_alter {l : Launch} {D : va_G} {G : GC} {ad : Nat → Nat} (p1 : Int32) (p2 : Int32) (σ : Mem) {k : Int32} {σ1 : Mem} (hk : HRes [(2, 1), (3, 2)] (xrIM (f_LF_alter 0 p1 p2 σ)) k σ1) : CtrH l D G ad ⟨"LineFramesLaw", "alter", "(LLineFrames;II[J)I"⟩ method_13_code 5 [(0, 10, 13, 20), (0, 10, 17, 13)] 8 133 [.ref (ad 0), .int p1, .int p2, .ref (ad 82)] σ k σ1 := by
  refine ctrH_of (by decide +kernel) rfl (Nat.le_of_ble_eq_true rfl) (fun p e s m below meth c ls C hl => ?_)
  have hl : lv_has ls 5 [(0, .ref (ad 0)), (1, .int p1), (2, .int p2), (3, .ref (ad 82))] := hl
  refine lv_aload_n C.1 C.2.1 d_LAW_alter_0 rfl (lv_at hl 3 rfl) ?_
  refine lv_iconst (v := 0) C.1 C.2.1 d_LAW_alter_1 (by decide) ?_
  refine lv_aload_n C.1 C.2.1 d_LAW_alter_2 rfl (lv_at hl 0 rfl) ?_
  refine lv_iload_n C.1 C.2.1 d_LAW_alter_3 rfl (lv_at hl 1 rfl) ?_
  refine lv_iload_n C.1 C.2.1 d_LAW_alter_4 rfl (lv_at hl 2 rfl) ?_
  refine hp_call C mv_LAW_51 (As := [.int p1, .int p2]) rfl (c_LF_alter i00 p1 p2 σ) (by decide) d_LAW_alter_5 hl.1 [((0, 10, 13, 20), 2), ((0, 10, 17, 13), 3)] rfl (by
      intro x hx
      simp only [List.mem_cons, List.not_mem_nil, or_false] at hx
      rcases hx with rfl | rfl
      · exact ⟨by decide, by decide, by decide, (List.mem_of_getElem? (i := 778) (by decide +kernel))⟩
      · exact ⟨by decide, by decide, by decide, (List.mem_of_getElem? (i := 697) (by decide +kernel))⟩) hcast4 (fun r σ2 H1 locs1 hρ hP hS => ?_) (xrIM_n (f_LF_alter 0 p1 p2 σ)) (xrIM_v (f_LF_alter 0 p1 p2 σ)) (fun n σ2 hρ => ?_)
  · rcases hk with ⟨r1, σ3, e1, rfl, rfl⟩ | ⟨n1, e1, -⟩
    · cases hρ.symm.trans e1
      refine hp_out C hP hS d_LAW_alter_8 d_LAW_alter_9 (fun H1 locs1 hP hS => ?_)
      refine lv_goto (tgt := 21) C.1 C.2.1 d_LAW_alter_10 (by decide) ?_
      exact hp_ret C hP hS (by decide) (by decide) d_LAW_alter_21 rfl d_LAW_alter_22
    · cases hρ.symm.trans e1
  · rcases hk with ⟨r1, σ3, e1, -, -⟩ | ⟨n1, e1, hm⟩
    · cases hρ.symm.trans e1
    · cases hρ.symm.trans e1
      simp only [List.mem_cons, Prod.mk.injEq, List.not_mem_nil, or_false] at hm
      rcases hm with ⟨rfl, rfl⟩ | ⟨rfl, rfl⟩
      · refine ⟨by decide, 13, rfl, fun q H1 locs1 hP hS => ?_⟩
        refine lv_astore C.1 C.2.1 d_LAW_alter_13 hl (by decide) rfl (fun ls2 _ => ?_)
        exact hp_ret C hP hS (by decide) (by decide) d_LAW_alter_15 rfl d_LAW_alter_16
      · refine ⟨by decide, 17, rfl, fun q H1 locs1 hP hS => ?_⟩
        refine lv_astore C.1 C.2.1 d_LAW_alter_17 hl (by decide) rfl (fun ls2 _ => ?_)
        exact hp_ret C hP hS (by decide) (by decide) d_LAW_alter_19 rfl d_LAW_alter_20
theorem d_LAW_at_0 : decode method_14_code 0 = .ok (.aload 5, 2) := by decide +kernel
theorem d_LAW_at_2 : decode method_14_code 2 = .ok (.iconst 0, 1) := by decide +kernel
theorem d_LAW_at_3 : decode method_14_code 3 = .ok (.aload_n 0, 1) := by decide +kernel
theorem d_LAW_at_4 : decode method_14_code 4 = .ok (.iload_n 1, 1) := by decide +kernel
theorem d_LAW_at_5 : decode method_14_code 5 = .ok (.iload_n 2, 1) := by decide +kernel
theorem d_LAW_at_6 : decode method_14_code 6 = .ok (.iload_n 3, 1) := by decide +kernel
theorem d_LAW_at_7 : decode method_14_code 7 = .ok (.iload 4, 2) := by decide +kernel
theorem d_LAW_at_9 : decode method_14_code 9 = .ok (.invokevirtual 54, 3) := by decide +kernel
theorem d_LAW_at_12 : decode method_14_code 12 = .ok (.i2l, 1) := by decide +kernel
theorem d_LAW_at_13 : decode method_14_code 13 = .ok (.lastore, 1) := by decide +kernel
theorem d_LAW_at_14 : decode method_14_code 14 = .ok (.goto 11, 3) := by decide +kernel
theorem d_LAW_at_17 : decode method_14_code 17 = .ok (.astore 6, 2) := by decide +kernel
theorem d_LAW_at_19 : decode method_14_code 19 = .ok (.iconst 1, 1) := by decide +kernel
theorem d_LAW_at_20 : decode method_14_code 20 = .ok (.ireturn, 1) := by decide +kernel
theorem d_LAW_at_21 : decode method_14_code 21 = .ok (.astore 6, 2) := by decide +kernel
theorem d_LAW_at_23 : decode method_14_code 23 = .ok (.iconst 2, 1) := by decide +kernel
theorem d_LAW_at_24 : decode method_14_code 24 = .ok (.ireturn, 1) := by decide +kernel
theorem d_LAW_at_25 : decode method_14_code 25 = .ok (.iconst 0, 1) := by decide +kernel
theorem d_LAW_at_26 : decode method_14_code 26 = .ok (.ireturn, 1) := by decide +kernel
set_option maxHeartbeats 4000000 in
set_option maxRecDepth 100000 in
theorem h_at {l : Launch} {D : va_G} {G : GC} {ad : Nat → Nat} (p1 : Int32) (p2 : Int32) (p3 : Int32) (p4 : Int32) (σ : Mem) {k : Int32} {σ1 : Mem} (hk : HRes [(1, 1), (2, 2)] (xrI (f_LF_at 0 p1 p2 p3 p4 σ) σ) k σ1) : CtrH l D G ad ⟨"LineFramesLaw", "at", "(LLineFrames;IIIZ[J)I"⟩ method_14_code 7 [(0, 14, 17, 18), (0, 14, 21, 20)] 8 136 [.ref (ad 0), .int p1, .int p2, .int p3, .int p4, .ref (ad 82)] σ k σ1 := by
  refine ctrH_of (by decide +kernel) rfl (Nat.le_of_ble_eq_true rfl) (fun p e s m below meth c ls C hl => ?_)
  have hl : lv_has ls 7 [(0, .ref (ad 0)), (1, .int p1), (2, .int p2), (3, .int p3), (4, .int p4), (5, .ref (ad 82))] := hl
  refine lv_aload C.1 C.2.1 d_LAW_at_0 (lv_at hl 5 rfl) ?_
  refine lv_iconst (v := 0) C.1 C.2.1 d_LAW_at_2 (by decide) ?_
  refine lv_aload_n C.1 C.2.1 d_LAW_at_3 rfl (lv_at hl 0 rfl) ?_
  refine lv_iload_n C.1 C.2.1 d_LAW_at_4 rfl (lv_at hl 1 rfl) ?_
  refine lv_iload_n C.1 C.2.1 d_LAW_at_5 rfl (lv_at hl 2 rfl) ?_
  refine lv_iload_n C.1 C.2.1 d_LAW_at_6 rfl (lv_at hl 3 rfl) ?_
  refine lv_iload C.1 C.2.1 d_LAW_at_7 (lv_at hl 4 rfl) ?_
  refine hp_call C mv_LAW_54 (As := [.int p1, .int p2, .int p3, .int p4]) rfl (c_LF_at i00 p1 p2 p3 p4 σ) (by decide) d_LAW_at_9 hl.1 [((0, 14, 17, 18), 1), ((0, 14, 21, 20), 2)] rfl (by
      intro x hx
      simp only [List.mem_cons, List.not_mem_nil, or_false] at hx
      rcases hx with rfl | rfl
      · exact ⟨by decide, by decide, by decide, (List.mem_of_getElem? (i := 777) (by decide +kernel))⟩
      · exact ⟨by decide, by decide, by decide, (List.mem_of_getElem? (i := 778) (by decide +kernel))⟩) hcast4 (fun r σ2 H1 locs1 hρ hP hS => ?_) (xrI_n (f_LF_at 0 p1 p2 p3 p4 σ) σ) (xrI_v (f_LF_at 0 p1 p2 p3 p4 σ) σ) (fun n σ2 hρ => ?_)
  · rcases hk with ⟨r1, σ3, e1, rfl, rfl⟩ | ⟨n1, e1, -⟩
    · cases hρ.symm.trans e1
      refine hp_out C hP hS d_LAW_at_12 d_LAW_at_13 (fun H1 locs1 hP hS => ?_)
      refine lv_goto (tgt := 25) C.1 C.2.1 d_LAW_at_14 (by decide) ?_
      exact hp_ret C hP hS (by decide) (by decide) d_LAW_at_25 rfl d_LAW_at_26
    · cases hρ.symm.trans e1
  · rcases hk with ⟨r1, σ3, e1, -, -⟩ | ⟨n1, e1, hm⟩
    · cases hρ.symm.trans e1
    · cases hρ.symm.trans e1
      simp only [List.mem_cons, Prod.mk.injEq, List.not_mem_nil, or_false] at hm
      rcases hm with ⟨rfl, rfl⟩ | ⟨rfl, rfl⟩
      · refine ⟨by decide, 17, rfl, fun q H1 locs1 hP hS => ?_⟩
        refine lv_astore C.1 C.2.1 d_LAW_at_17 hl (by decide) rfl (fun ls2 _ => ?_)
        exact hp_ret C hP hS (by decide) (by decide) d_LAW_at_19 rfl d_LAW_at_20
      · refine ⟨by decide, 21, rfl, fun q H1 locs1 hP hS => ?_⟩
        refine lv_astore C.1 C.2.1 d_LAW_at_21 hl (by decide) rfl (fun ls2 _ => ?_)
        exact hp_ret C hP hS (by decide) (by decide) d_LAW_at_23 rfl d_LAW_at_24
theorem d_LAW_found_0 : decode method_15_code 0 = .ok (.aload_n 2, 1) := by decide +kernel
theorem d_LAW_found_1 : decode method_15_code 1 = .ok (.iconst 0, 1) := by decide +kernel
theorem d_LAW_found_2 : decode method_15_code 2 = .ok (.aload_n 0, 1) := by decide +kernel
theorem d_LAW_found_3 : decode method_15_code 3 = .ok (.iload_n 1, 1) := by decide +kernel
theorem d_LAW_found_4 : decode method_15_code 4 = .ok (.invokevirtual 58, 3) := by decide +kernel
theorem d_LAW_found_7 : decode method_15_code 7 = .ok (.i2l, 1) := by decide +kernel
theorem d_LAW_found_8 : decode method_15_code 8 = .ok (.lastore, 1) := by decide +kernel
theorem d_LAW_found_9 : decode method_15_code 9 = .ok (.goto 6, 3) := by decide +kernel
theorem d_LAW_found_12 : decode method_15_code 12 = .ok (.astore_n 3, 1) := by decide +kernel
theorem d_LAW_found_13 : decode method_15_code 13 = .ok (.iconst 1, 1) := by decide +kernel
theorem d_LAW_found_14 : decode method_15_code 14 = .ok (.ireturn, 1) := by decide +kernel
theorem d_LAW_found_15 : decode method_15_code 15 = .ok (.iconst 0, 1) := by decide +kernel
theorem d_LAW_found_16 : decode method_15_code 16 = .ok (.ireturn, 1) := by decide +kernel
set_option maxHeartbeats 4000000 in
set_option maxRecDepth 100000 in
theorem h_found {l : Launch} {D : va_G} {G : GC} {ad : Nat → Nat} (p1 : Int32) (σ : Mem) {k : Int32} {σ1 : Mem} (hk : HRes [(1, 1)] (xrI (f_LF_found 0 p1 σ) σ) k σ1) : CtrH l D G ad ⟨"LineFramesLaw", "found", "(LLineFrames;I[J)I"⟩ method_15_code 4 [(0, 9, 12, 18)] 8 132 [.ref (ad 0), .int p1, .ref (ad 82)] σ k σ1 := by
  refine ctrH_of (by decide +kernel) rfl (Nat.le_of_ble_eq_true rfl) (fun p e s m below meth c ls C hl => ?_)
  have hl : lv_has ls 4 [(0, .ref (ad 0)), (1, .int p1), (2, .ref (ad 82))] := hl
  refine lv_aload_n C.1 C.2.1 d_LAW_found_0 rfl (lv_at hl 2 rfl) ?_
  refine lv_iconst (v := 0) C.1 C.2.1 d_LAW_found_1 (by decide) ?_
  refine lv_aload_n C.1 C.2.1 d_LAW_found_2 rfl (lv_at hl 0 rfl) ?_
  refine lv_iload_n C.1 C.2.1 d_LAW_found_3 rfl (lv_at hl 1 rfl) ?_
  refine hp_call C mv_LAW_58 (As := [.int p1]) rfl (c_LF_found i00 p1 σ) (by decide) d_LAW_found_4 hl.1 [((0, 9, 12, 18), 1)] rfl (by
      intro x hx
      simp only [List.mem_cons, List.not_mem_nil, or_false] at hx
      rcases hx with rfl
      · exact ⟨by decide, by decide, by decide, (List.mem_of_getElem? (i := 777) (by decide +kernel))⟩) hcast4 (fun r σ2 H1 locs1 hρ hP hS => ?_) (xrI_n (f_LF_found 0 p1 σ) σ) (xrI_v (f_LF_found 0 p1 σ) σ) (fun n σ2 hρ => ?_)
  · rcases hk with ⟨r1, σ3, e1, rfl, rfl⟩ | ⟨n1, e1, -⟩
    · cases hρ.symm.trans e1
      refine hp_out C hP hS d_LAW_found_7 d_LAW_found_8 (fun H1 locs1 hP hS => ?_)
      refine lv_goto (tgt := 15) C.1 C.2.1 d_LAW_found_9 (by decide) ?_
      exact hp_ret C hP hS (by decide) (by decide) d_LAW_found_15 rfl d_LAW_found_16
    · cases hρ.symm.trans e1
  · rcases hk with ⟨r1, σ3, e1, -, -⟩ | ⟨n1, e1, hm⟩
    · cases hρ.symm.trans e1
    · cases hρ.symm.trans e1
      simp only [List.mem_cons, Prod.mk.injEq, List.not_mem_nil, or_false] at hm
      rcases hm with ⟨rfl, rfl⟩
      · refine ⟨by decide, 12, rfl, fun q H1 locs1 hP hS => ?_⟩
        refine lv_astore_n C.1 C.2.1 d_LAW_found_12 rfl hl (by decide) rfl (fun ls2 _ => ?_)
        exact hp_ret C hP hS (by decide) (by decide) d_LAW_found_13 rfl d_LAW_found_14
theorem d_LAW_noteAt_0 : decode method_16_code 0 = .ok (.aload_n 3, 1) := by decide +kernel
theorem d_LAW_noteAt_1 : decode method_16_code 1 = .ok (.iconst 0, 1) := by decide +kernel
theorem d_LAW_noteAt_2 : decode method_16_code 2 = .ok (.aload_n 0, 1) := by decide +kernel
theorem d_LAW_noteAt_3 : decode method_16_code 3 = .ok (.iload_n 1, 1) := by decide +kernel
theorem d_LAW_noteAt_4 : decode method_16_code 4 = .ok (.iload_n 2, 1) := by decide +kernel
theorem d_LAW_noteAt_5 : decode method_16_code 5 = .ok (.invokevirtual 61, 3) := by decide +kernel
theorem d_LAW_noteAt_8 : decode method_16_code 8 = .ok (.i2l, 1) := by decide +kernel
theorem d_LAW_noteAt_9 : decode method_16_code 9 = .ok (.lastore, 1) := by decide +kernel
theorem d_LAW_noteAt_10 : decode method_16_code 10 = .ok (.goto 11, 3) := by decide +kernel
theorem d_LAW_noteAt_13 : decode method_16_code 13 = .ok (.astore 4, 2) := by decide +kernel
theorem d_LAW_noteAt_15 : decode method_16_code 15 = .ok (.iconst 1, 1) := by decide +kernel
theorem d_LAW_noteAt_16 : decode method_16_code 16 = .ok (.ireturn, 1) := by decide +kernel
theorem d_LAW_noteAt_17 : decode method_16_code 17 = .ok (.astore 4, 2) := by decide +kernel
theorem d_LAW_noteAt_19 : decode method_16_code 19 = .ok (.iconst 2, 1) := by decide +kernel
theorem d_LAW_noteAt_20 : decode method_16_code 20 = .ok (.ireturn, 1) := by decide +kernel
theorem d_LAW_noteAt_21 : decode method_16_code 21 = .ok (.iconst 0, 1) := by decide +kernel
theorem d_LAW_noteAt_22 : decode method_16_code 22 = .ok (.ireturn, 1) := by decide +kernel
set_option maxHeartbeats 4000000 in
set_option maxRecDepth 100000 in
theorem h_noteAt {l : Launch} {D : va_G} {G : GC} {ad : Nat → Nat} (p1 : Int32) (p2 : Int32) (σ : Mem) {k : Int32} {σ1 : Mem} (hk : HRes [(1, 1), (2, 2)] (xrI (f_LF_noteAt 0 p1 p2 σ) σ) k σ1) : CtrH l D G ad ⟨"LineFramesLaw", "noteAt", "(LLineFrames;II[J)I"⟩ method_16_code 5 [(0, 10, 13, 18), (0, 10, 17, 20)] 8 133 [.ref (ad 0), .int p1, .int p2, .ref (ad 82)] σ k σ1 := by
  refine ctrH_of (by decide +kernel) rfl (Nat.le_of_ble_eq_true rfl) (fun p e s m below meth c ls C hl => ?_)
  have hl : lv_has ls 5 [(0, .ref (ad 0)), (1, .int p1), (2, .int p2), (3, .ref (ad 82))] := hl
  refine lv_aload_n C.1 C.2.1 d_LAW_noteAt_0 rfl (lv_at hl 3 rfl) ?_
  refine lv_iconst (v := 0) C.1 C.2.1 d_LAW_noteAt_1 (by decide) ?_
  refine lv_aload_n C.1 C.2.1 d_LAW_noteAt_2 rfl (lv_at hl 0 rfl) ?_
  refine lv_iload_n C.1 C.2.1 d_LAW_noteAt_3 rfl (lv_at hl 1 rfl) ?_
  refine lv_iload_n C.1 C.2.1 d_LAW_noteAt_4 rfl (lv_at hl 2 rfl) ?_
  refine hp_call C mv_LAW_61 (As := [.int p1, .int p2]) rfl (c_LF_noteAt i00 p1 p2 σ) (by decide) d_LAW_noteAt_5 hl.1 [((0, 10, 13, 18), 1), ((0, 10, 17, 20), 2)] rfl (by
      intro x hx
      simp only [List.mem_cons, List.not_mem_nil, or_false] at hx
      rcases hx with rfl | rfl
      · exact ⟨by decide, by decide, by decide, (List.mem_of_getElem? (i := 777) (by decide +kernel))⟩
      · exact ⟨by decide, by decide, by decide, (List.mem_of_getElem? (i := 778) (by decide +kernel))⟩) hcast4 (fun r σ2 H1 locs1 hρ hP hS => ?_) (xrI_n (f_LF_noteAt 0 p1 p2 σ) σ) (xrI_v (f_LF_noteAt 0 p1 p2 σ) σ) (fun n σ2 hρ => ?_)
  · rcases hk with ⟨r1, σ3, e1, rfl, rfl⟩ | ⟨n1, e1, -⟩
    · cases hρ.symm.trans e1
      refine hp_out C hP hS d_LAW_noteAt_8 d_LAW_noteAt_9 (fun H1 locs1 hP hS => ?_)
      refine lv_goto (tgt := 21) C.1 C.2.1 d_LAW_noteAt_10 (by decide) ?_
      exact hp_ret C hP hS (by decide) (by decide) d_LAW_noteAt_21 rfl d_LAW_noteAt_22
    · cases hρ.symm.trans e1
  · rcases hk with ⟨r1, σ3, e1, -, -⟩ | ⟨n1, e1, hm⟩
    · cases hρ.symm.trans e1
    · cases hρ.symm.trans e1
      simp only [List.mem_cons, Prod.mk.injEq, List.not_mem_nil, or_false] at hm
      rcases hm with ⟨rfl, rfl⟩ | ⟨rfl, rfl⟩
      · refine ⟨by decide, 13, rfl, fun q H1 locs1 hP hS => ?_⟩
        refine lv_astore C.1 C.2.1 d_LAW_noteAt_13 hl (by decide) rfl (fun ls2 _ => ?_)
        exact hp_ret C hP hS (by decide) (by decide) d_LAW_noteAt_15 rfl d_LAW_noteAt_16
      · refine ⟨by decide, 17, rfl, fun q H1 locs1 hP hS => ?_⟩
        refine lv_astore C.1 C.2.1 d_LAW_noteAt_17 hl (by decide) rfl (fun ls2 _ => ?_)
        exact hp_ret C hP hS (by decide) (by decide) d_LAW_noteAt_19 rfl d_LAW_noteAt_20
