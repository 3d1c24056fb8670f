/-! the law's cases -/
abbrev sA (F : Lx) (i c : Int32) : Int32 := lxs F (i + c).toNatClampNeg
theorem i5611 : Is 56 11 := ⟨by decide, by decide +kernel⟩
theorem lc0 {x y : Int32} (h : x = y) : lg_cmp x.toInt64 y.toInt64 = 0 := by
  subst h
  simp [lg_cmp]
theorem l_lcmp {F : Lx} {σ : Mem} {cells slots pc : Nat} {lv : List (Nat × Value)} {st : List Value} {x y : Int64} (C : LCtx F) (d : decode code pc = .ok (.lcmp, 1)) (K : LW F σ cells slots (pc + 1) lv (.int (lg_cmp x y) :: st)) : LW F σ cells slots pc lv (.long y :: .long x :: st) := fun H locs ls hP hS hl => W.lcmp C.ex C.bc d (K H locs ls hP hS hl)
theorem l_tin {F : Lx} {σ : Mem} {cells slots pc : Nat} {lv : List (Nat × Value)} {st : List Value} {x k : Int32} {dflt lo1 hi1 : Int} {offs : Array Int} {len tgt : Nat} {off : Int} (C : LCtx F) (d : decode code pc = .ok (.tableswitch dflt lo1 hi1 offs, len)) (hx : x = k) (h1 : ¬ k.toInt < lo1) (h2 : ¬ hi1 < k.toInt) (ho : offs[(k.toInt - lo1).toNat]? = some off) (ht : (pc : Int) + off = (tgt : Int)) (K : LW F σ cells slots tgt lv st) : LW F σ cells slots pc lv (.int x :: st) := by
  subst hx
  exact fun H locs ls hP hS hl => lv_tableIn C.ex C.bc d h1 h2 ho ht (K H locs ls hP hS hl)
theorem l_tout {F : Lx} {σ : Mem} {cells slots pc : Nat} {lv : List (Nat × Value)} {st : List Value} {x : Int32} {dflt lo1 hi1 : Int} {offs : Array Int} {len tgt : Nat} (C : LCtx F) (d : decode code pc = .ok (.tableswitch dflt lo1 hi1 offs, len)) (ht : (pc : Int) + dflt = (tgt : Int)) (h : x.toInt < lo1 ∨ hi1 < x.toInt) (K : LW F σ cells slots tgt lv st) : LW F σ cells slots pc lv (.int x :: st) := fun H locs ls hP hS hl => lv_tableOut C.ex C.bc d h ht (K H locs ls hP hS hl)
theorem mv_LAW_79 : MV "LineFramesLaw" 79 ⟨"LineFramesModel", "picture", "(IIII)I"⟩ prog_13_method_6_code 6 (some .int) 4 11 := ⟨⟨Or.inl (List.mem_of_getElem? (i := 1291) (by decide +kernel)), (List.mem_of_getElem? (i := 88) (by decide +kernel)), (List.mem_of_getElem? (i := 1294) (by decide +kernel)), by decide, by decide +kernel⟩, (List.mem_of_getElem? (i := 1292) (by decide +kernel)), (List.mem_of_getElem? (i := 1293) (by decide +kernel)), _, rfl, rfl⟩
theorem mv_LAW_80 : MV "LineFramesLaw" 80 ⟨"LineFramesModel", "thrown", "()I"⟩ prog_13_method_2_code 1 (some .int) 0 11 := ⟨⟨Or.inl (List.mem_of_getElem? (i := 1287) (by decide +kernel)), (List.mem_of_getElem? (i := 88) (by decide +kernel)), (List.mem_of_getElem? (i := 1290) (by decide +kernel)), by decide, by decide +kernel⟩, (List.mem_of_getElem? (i := 1288) (by decide +kernel)), (List.mem_of_getElem? (i := 1289) (by decide +kernel)), _, rfl, rfl⟩
theorem mv_LAW_86 : MV "LineFramesLaw" 86 ⟨"LineFramesModel", "put", "(IIII)I"⟩ prog_13_method_8_code 7 (some .int) 4 11 := ⟨⟨Or.inl (List.mem_of_getElem? (i := 1302) (by decide +kernel)), (List.mem_of_getElem? (i := 88) (by decide +kernel)), (List.mem_of_getElem? (i := 1305) (by decide +kernel)), by decide, by decide +kernel⟩, (List.mem_of_getElem? (i := 1303) (by decide +kernel)), (List.mem_of_getElem? (i := 1304) (by decide +kernel)), _, rfl, rfl⟩
theorem mv_LAW_90 : MV "LineFramesLaw" 90 ⟨"LineFramesModel", "preset", "(II)I"⟩ prog_13_method_9_code 5 (some .int) 2 11 := ⟨⟨Or.inl (List.mem_of_getElem? (i := 1313) (by decide +kernel)), (List.mem_of_getElem? (i := 88) (by decide +kernel)), (List.mem_of_getElem? (i := 1316) (by decide +kernel)), by decide, by decide +kernel⟩, (List.mem_of_getElem? (i := 1314) (by decide +kernel)), (List.mem_of_getElem? (i := 1315) (by decide +kernel)), _, rfl, rfl⟩
theorem mv_LAW_94 : MV "LineFramesLaw" 94 ⟨"LineFramesModel", "table", "(III)I"⟩ prog_13_method_10_code 6 (some .int) 3 11 := ⟨⟨Or.inl (List.mem_of_getElem? (i := 1317) (by decide +kernel)), (List.mem_of_getElem? (i := 88) (by decide +kernel)), (List.mem_of_getElem? (i := 1320) (by decide +kernel)), by decide, by decide +kernel⟩, (List.mem_of_getElem? (i := 1318) (by decide +kernel)), (List.mem_of_getElem? (i := 1319) (by decide +kernel)), _, rfl, rfl⟩
theorem mv_LAW_98 : MV "LineFramesLaw" 98 ⟨"LineFramesModel", "note", "(I)I"⟩ prog_13_method_11_code 2 (some .int) 1 11 := ⟨⟨Or.inl (List.mem_of_getElem? (i := 1322) (by decide +kernel)), (List.mem_of_getElem? (i := 88) (by decide +kernel)), (List.mem_of_getElem? (i := 1325) (by decide +kernel)), by decide, by decide +kernel⟩, (List.mem_of_getElem? (i := 1323) (by decide +kernel)), (List.mem_of_getElem? (i := 1324) (by decide +kernel)), _, rfl, rfl⟩
theorem mv_LAW_101 : MV "LineFramesLaw" 101 ⟨"LineFramesModel", "byteOf", "(II)I"⟩ prog_13_method_12_code 3 (some .int) 2 11 := ⟨⟨Or.inl (List.mem_of_getElem? (i := 1326) (by decide +kernel)), (List.mem_of_getElem? (i := 88) (by decide +kernel)), (List.mem_of_getElem? (i := 1329) (by decide +kernel)), by decide, by decide +kernel⟩, (List.mem_of_getElem? (i := 1327) (by decide +kernel)), (List.mem_of_getElem? (i := 1328) (by decide +kernel)), _, rfl, rfl⟩
theorem mv_LAW_104 : MV "LineFramesLaw" 104 ⟨"LineFramesModel", "write", "(I)I"⟩ prog_13_method_29_code 4 (some .int) 1 11 := ⟨⟨Or.inl (List.mem_of_getElem? (i := 1330) (by decide +kernel)), (List.mem_of_getElem? (i := 88) (by decide +kernel)), (List.mem_of_getElem? (i := 1333) (by decide +kernel)), by decide, by decide +kernel⟩, (List.mem_of_getElem? (i := 1331) (by decide +kernel)), (List.mem_of_getElem? (i := 1332) (by decide +kernel)), _, rfl, rfl⟩
theorem mv_LAW_107 : MV "LineFramesLaw" 107 ⟨"LineFramesModel", "byteAt", "(I)I"⟩ prog_13_method_30_code 2 (some .int) 1 11 := ⟨⟨Or.inl (List.mem_of_getElem? (i := 1398) (by decide +kernel)), (List.mem_of_getElem? (i := 88) (by decide +kernel)), (List.mem_of_getElem? (i := 1401) (by decide +kernel)), by decide, by decide +kernel⟩, (List.mem_of_getElem? (i := 1399) (by decide +kernel)), (List.mem_of_getElem? (i := 1400) (by decide +kernel)), _, rfl, rfl⟩
theorem mv_LAW_110 : MV "LineFramesLaw" 110 ⟨"LineFramesModel", "feed", "(I)I"⟩ prog_13_method_31_code 2 (some .int) 1 11 := ⟨⟨Or.inl (List.mem_of_getElem? (i := 1402) (by decide +kernel)), (List.mem_of_getElem? (i := 88) (by decide +kernel)), (List.mem_of_getElem? (i := 1405) (by decide +kernel)), by decide, by decide +kernel⟩, (List.mem_of_getElem? (i := 1403) (by decide +kernel)), (List.mem_of_getElem? (i := 1404) (by decide +kernel)), _, rfl, rfl⟩
theorem mv_LAW_113 : MV "LineFramesLaw" 113 ⟨"LineFramesModel", "pass", "(II)I"⟩ prog_13_method_32_code 5 (some .int) 2 11 := ⟨⟨Or.inl (List.mem_of_getElem? (i := 1406) (by decide +kernel)), (List.mem_of_getElem? (i := 88) (by decide +kernel)), (List.mem_of_getElem? (i := 1409) (by decide +kernel)), by decide, by decide +kernel⟩, (List.mem_of_getElem? (i := 1407) (by decide +kernel)), (List.mem_of_getElem? (i := 1408) (by decide +kernel)), _, rfl, rfl⟩
theorem mv_LAW_116 : MV "LineFramesLaw" 116 ⟨"LineFramesModel", "alter", "(II)I"⟩ prog_13_method_33_code 4 (some .int) 2 11 := ⟨⟨Or.inl (List.mem_of_getElem? (i := 1410) (by decide +kernel)), (List.mem_of_getElem? (i := 88) (by decide +kernel)), (List.mem_of_getElem? (i := 1413) (by decide +kernel)), by decide, by decide +kernel⟩, (List.mem_of_getElem? (i := 1411) (by decide +kernel)), (List.mem_of_getElem? (i := 1412) (by decide +kernel)), _, rfl, rfl⟩
theorem mv_LAW_117 : MV "LineFramesLaw" 117 ⟨"LineFrames", "read", "()I"⟩ prog_1_method_13_code 2 (some .int) 0 0 := ⟨⟨Or.inl (List.mem_of_getElem? (i := 400) (by decide +kernel)), (List.mem_of_getElem? (i := 76) (by decide +kernel)), (List.mem_of_getElem? (i := 403) (by decide +kernel)), by decide, by decide +kernel⟩, (List.mem_of_getElem? (i := 401) (by decide +kernel)), (List.mem_of_getElem? (i := 402) (by decide +kernel)), _, rfl, rfl⟩
theorem mv_LAW_120 : MV "LineFramesLaw" 120 ⟨"LineFramesModel", "read", "()I"⟩ prog_13_method_54_code 3 (some .int) 0 11 := ⟨⟨Or.inl (List.mem_of_getElem? (i := 1418) (by decide +kernel)), (List.mem_of_getElem? (i := 88) (by decide +kernel)), (List.mem_of_getElem? (i := 1421) (by decide +kernel)), by decide, by decide +kernel⟩, (List.mem_of_getElem? (i := 1419) (by decide +kernel)), (List.mem_of_getElem? (i := 1420) (by decide +kernel)), _, rfl, rfl⟩
theorem mv_LAW_124 : MV "LineFramesLaw" 124 ⟨"LineFramesModel", "at", "(IIIZ)I"⟩ prog_13_method_55_code 6 (some .int) 4 11 := ⟨⟨Or.inl (List.mem_of_getElem? (i := 1498) (by decide +kernel)), (List.mem_of_getElem? (i := 88) (by decide +kernel)), (List.mem_of_getElem? (i := 1501) (by decide +kernel)), by decide, by decide +kernel⟩, (List.mem_of_getElem? (i := 1499) (by decide +kernel)), (List.mem_of_getElem? (i := 1500) (by decide +kernel)), _, rfl, rfl⟩
theorem mv_LAW_127 : MV "LineFramesLaw" 127 ⟨"LineFramesModel", "found", "(I)I"⟩ prog_13_method_56_code 2 (some .int) 1 11 := ⟨⟨Or.inl (List.mem_of_getElem? (i := 1502) (by decide +kernel)), (List.mem_of_getElem? (i := 88) (by decide +kernel)), (List.mem_of_getElem? (i := 1505) (by decide +kernel)), by decide, by decide +kernel⟩, (List.mem_of_getElem? (i := 1503) (by decide +kernel)), (List.mem_of_getElem? (i := 1504) (by decide +kernel)), _, rfl, rfl⟩
theorem mv_LAW_130 : MV "LineFramesLaw" 130 ⟨"LineFramesModel", "noteAt", "(II)I"⟩ prog_13_method_57_code 3 (some .int) 2 11 := ⟨⟨Or.inl (List.mem_of_getElem? (i := 1506) (by decide +kernel)), (List.mem_of_getElem? (i := 88) (by decide +kernel)), (List.mem_of_getElem? (i := 1509) (by decide +kernel)), by decide, by decide +kernel⟩, (List.mem_of_getElem? (i := 1507) (by decide +kernel)), (List.mem_of_getElem? (i := 1508) (by decide +kernel)), _, rfl, rfl⟩
theorem mv_LAW_131 : MV "LineFramesLaw" 131 ⟨"LineFrames", "told", "(I)I"⟩ prog_1_method_17_code 2 (some .int) 1 0 := ⟨⟨Or.inl (List.mem_of_getElem? (i := 670) (by decide +kernel)), (List.mem_of_getElem? (i := 76) (by decide +kernel)), (List.mem_of_getElem? (i := 673) (by decide +kernel)), by decide, by decide +kernel⟩, (List.mem_of_getElem? (i := 671) (by decide +kernel)), (List.mem_of_getElem? (i := 672) (by decide +kernel)), _, rfl, rfl⟩
theorem mv_LAW_134 : MV "LineFramesLaw" 134 ⟨"LineFramesModel", "told", "(I)I"⟩ prog_13_method_58_code 2 (some .int) 1 11 := ⟨⟨Or.inl (List.mem_of_getElem? (i := 1510) (by decide +kernel)), (List.mem_of_getElem? (i := 88) (by decide +kernel)), (List.mem_of_getElem? (i := 1513) (by decide +kernel)), by decide, by decide +kernel⟩, (List.mem_of_getElem? (i := 1511) (by decide +kernel)), (List.mem_of_getElem? (i := 1512) (by decide +kernel)), _, rfl, rfl⟩
theorem mv_LAW_135 : MV "LineFramesLaw" 135 ⟨"LineFrames", "drop", "()V"⟩ prog_1_method_18_code 1 none 0 0 := ⟨⟨Or.inl (List.mem_of_getElem? (i := 683) (by decide +kernel)), (List.mem_of_getElem? (i := 76) (by decide +kernel)), (List.mem_of_getElem? (i := 686) (by decide +kernel)), by decide, by decide +kernel⟩, (List.mem_of_getElem? (i := 684) (by decide +kernel)), (List.mem_of_getElem? (i := 685) (by decide +kernel)), _, rfl, rfl⟩
theorem mv_LAW_138 : MV "LineFramesLaw" 138 ⟨"LineFramesModel", "drop", "()V"⟩ prog_13_method_34_code 1 none 0 11 := ⟨⟨Or.inl (List.mem_of_getElem? (i := 1414) (by decide +kernel)), (List.mem_of_getElem? (i := 88) (by decide +kernel)), (List.mem_of_getElem? (i := 1417) (by decide +kernel)), by decide, by decide +kernel⟩, (List.mem_of_getElem? (i := 1415) (by decide +kernel)), (List.mem_of_getElem? (i := 1416) (by decide +kernel)), _, rfl, rfl⟩
theorem mh_76 : MH 76 ⟨"LineFramesLaw", "picture", "(LLineFrames;IIII[J)I"⟩ method_3_code 7 [(0, 14, 17, 13)] 6 := ⟨(List.mem_of_getElem? (i := 694) (by decide +kernel)), (List.mem_of_getElem? (i := 75) (by decide +kernel)), (List.mem_of_getElem? (i := 696) (by decide +kernel)), by decide, by decide +kernel, (List.mem_of_getElem? (i := 695) (by decide +kernel))⟩
theorem mh_84 : MH 84 ⟨"LineFramesLaw", "put", "(LLineFrames;IIII[J)I"⟩ method_4_code 7 [(0, 14, 17, 18), (0, 14, 21, 20), (0, 14, 25, 13)] 6 := ⟨(List.mem_of_getElem? (i := 774) (by decide +kernel)), (List.mem_of_getElem? (i := 75) (by decide +kernel)), (List.mem_of_getElem? (i := 776) (by decide +kernel)), by decide, by decide +kernel, (List.mem_of_getElem? (i := 775) (by decide +kernel))⟩
theorem mh_87 : MH 87 ⟨"LineFramesLaw", "preset", "(LLineFrames;II[J)I"⟩ method_5_code 5 [(0, 10, 13, 18), (0, 10, 17, 13)] 4 := ⟨(List.mem_of_getElem? (i := 833) (by decide +kernel)), (List.mem_of_getElem? (i := 75) (by decide +kernel)), (List.mem_of_getElem? (i := 835) (by decide +kernel)), by decide, by decide +kernel, (List.mem_of_getElem? (i := 834) (by decide +kernel))⟩
theorem mh_91 : MH 91 ⟨"LineFramesLaw", "table", "(LLineFrames;III[J)I"⟩ method_6_code 6 [(0, 12, 15, 18), (0, 12, 19, 20), (0, 12, 23, 13)] 5 := ⟨(List.mem_of_getElem? (i := 842) (by decide +kernel)), (List.mem_of_getElem? (i := 75) (by decide +kernel)), (List.mem_of_getElem? (i := 844) (by decide +kernel)), by decide, by decide +kernel, (List.mem_of_getElem? (i := 843) (by decide +kernel))⟩
theorem mh_95 : MH 95 ⟨"LineFramesLaw", "note", "(LLineFrames;I[J)I"⟩ method_7_code 4 [(0, 9, 12, 18), (0, 9, 15, 13), (0, 9, 18, 34)] 3 := ⟨(List.mem_of_getElem? (i := 860) (by decide +kernel)), (List.mem_of_getElem? (i := 75) (by decide +kernel)), (List.mem_of_getElem? (i := 862) (by decide +kernel)), by decide, by decide +kernel, (List.mem_of_getElem? (i := 861) (by decide +kernel))⟩
theorem mh_99 : MH 99 ⟨"LineFramesLaw", "byteOf", "(LLineFrames;II[J)I"⟩ method_8_code 5 [(0, 10, 13, 18), (0, 10, 17, 20), (0, 10, 21, 13), (0, 10, 25, 34)] 4 := ⟨(List.mem_of_getElem? (i := 887) (by decide +kernel)), (List.mem_of_getElem? (i := 75) (by decide +kernel)), (List.mem_of_getElem? (i := 889) (by decide +kernel)), by decide, by decide +kernel, (List.mem_of_getElem? (i := 888) (by decide +kernel))⟩
theorem mh_102 : MH 102 ⟨"LineFramesLaw", "write", "(LLineFrames;I[J)I"⟩ method_9_code 4 [(0, 9, 12, 18), (0, 9, 15, 13)] 3 := ⟨(List.mem_of_getElem? (i := 909) (by decide +kernel)), (List.mem_of_getElem? (i := 75) (by decide +kernel)), (List.mem_of_getElem? (i := 911) (by decide +kernel)), by decide, by decide +kernel, (List.mem_of_getElem? (i := 910) (by decide +kernel))⟩
theorem mh_105 : MH 105 ⟨"LineFramesLaw", "byteAt", "(LLineFrames;I[J)I"⟩ method_10_code 4 [(0, 9, 12, 20)] 3 := ⟨(List.mem_of_getElem? (i := 1011) (by decide +kernel)), (List.mem_of_getElem? (i := 75) (by decide +kernel)), (List.mem_of_getElem? (i := 1013) (by decide +kernel)), by decide, by decide +kernel, (List.mem_of_getElem? (i := 1012) (by decide +kernel))⟩
theorem mh_108 : MH 108 ⟨"LineFramesLaw", "feed", "(LLineFrames;I[J)I"⟩ method_11_code 4 [(0, 9, 12, 13), (0, 9, 15, 34)] 3 := ⟨(List.mem_of_getElem? (i := 1021) (by decide +kernel)), (List.mem_of_getElem? (i := 75) (by decide +kernel)), (List.mem_of_getElem? (i := 1023) (by decide +kernel)), by decide, by decide +kernel, (List.mem_of_getElem? (i := 1022) (by decide +kernel))⟩
theorem mh_111 : MH 111 ⟨"LineFramesLaw", "pass", "(LLineFrames;II[J)I"⟩ method_12_code 5 [(0, 10, 13, 20), (0, 10, 17, 13), (0, 10, 21, 34)] 4 := ⟨(List.mem_of_getElem? (i := 1034) (by decide +kernel)), (List.mem_of_getElem? (i := 75) (by decide +kernel)), (List.mem_of_getElem? (i := 1036) (by decide +kernel)), by decide, by decide +kernel, (List.mem_of_getElem? (i := 1035) (by decide +kernel))⟩
theorem mh_114 : MH 114 ⟨"LineFramesLaw", "alter", "(LLineFrames;II[J)I"⟩ method_13_code 5 [(0, 10, 13, 20), (0, 10, 17, 13)] 4 := ⟨(List.mem_of_getElem? (i := 1043) (by decide +kernel)), (List.mem_of_getElem? (i := 75) (by decide +kernel)), (List.mem_of_getElem? (i := 1045) (by decide +kernel)), by decide, by decide +kernel, (List.mem_of_getElem? (i := 1044) (by decide +kernel))⟩
theorem mh_121 : MH 121 ⟨"LineFramesLaw", "at", "(LLineFrames;IIIZ[J)I"⟩ method_14_code 7 [(0, 14, 17, 18), (0, 14, 21, 20)] 6 := ⟨(List.mem_of_getElem? (i := 1055) (by decide +kernel)), (List.mem_of_getElem? (i := 75) (by decide +kernel)), (List.mem_of_getElem? (i := 1057) (by decide +kernel)), by decide, by decide +kernel, (List.mem_of_getElem? (i := 1056) (by decide +kernel))⟩
theorem mh_125 : MH 125 ⟨"LineFramesLaw", "found", "(LLineFrames;I[J)I"⟩ method_15_code 4 [(0, 9, 12, 18)] 3 := ⟨(List.mem_of_getElem? (i := 1067) (by decide +kernel)), (List.mem_of_getElem? (i := 75) (by decide +kernel)), (List.mem_of_getElem? (i := 1069) (by decide +kernel)), by decide, by decide +kernel, (List.mem_of_getElem? (i := 1068) (by decide +kernel))⟩
theorem mh_128 : MH 128 ⟨"LineFramesLaw", "noteAt", "(LLineFrames;II[J)I"⟩ method_16_code 5 [(0, 10, 13, 18), (0, 10, 17, 20)] 4 := ⟨(List.mem_of_getElem? (i := 1074) (by decide +kernel)), (List.mem_of_getElem? (i := 75) (by decide +kernel)), (List.mem_of_getElem? (i := 1076) (by decide +kernel)), by decide, by decide +kernel, (List.mem_of_getElem? (i := 1075) (by decide +kernel))⟩
set_option maxRecDepth 100000 in
theorem d_law_33 : decode code 33 = .ok (.iload 4, 2) := by decide +kernel
set_option maxRecDepth 100000 in
theorem d_law_35 : decode code 35 = .ok (.aload_n 0, 1) := by decide +kernel
set_option maxRecDepth 100000 in
theorem d_law_36 : decode code 36 = .ok (.arraylength, 1) := by decide +kernel
set_option maxRecDepth 100000 in
theorem d_law_37 : decode code 37 = .ok (.iconst 5, 1) := by decide +kernel
set_option maxRecDepth 100000 in
theorem d_law_38 : decode code 38 = .ok (.isub, 1) := by decide +kernel
set_option maxRecDepth 100000 in
theorem d_law_39 : decode code 39 = .ok (.if_icmp .gt 1140, 3) := by decide +kernel
set_option maxRecDepth 100000 in
theorem d_law_42 : decode code 42 = .ok (.aload_n 0, 1) := by decide +kernel
set_option maxRecDepth 100000 in
theorem d_law_43 : decode code 43 = .ok (.iload 4, 2) := by decide +kernel
set_option maxRecDepth 100000 in
theorem d_law_45 : decode code 45 = .ok (.iaload, 1) := by decide +kernel
set_option maxRecDepth 100000 in
theorem d_law_46 : decode code 46 = .ok (.bipush 31, 2) := by decide +kernel
set_option maxRecDepth 100000 in
theorem d_law_48 : decode code 48 = .ok (.iand, 1) := by decide +kernel
set_option maxRecDepth 100000 in
theorem d_law_49 : decode code 49 = .ok (.tableswitch 1124 0 16 #[83, 175, 267, 335, 415, 471, 539, 595, 651, 707, 775, 843, 856, 964, 1020, 1088, 1113], 83) := by decide +kernel
set_option maxRecDepth 100000 in
theorem d_law_132 : decode code 132 = .ok (.aload_n 1, 1) := by decide +kernel
set_option maxRecDepth 100000 in
theorem d_law_133 : decode code 133 = .ok (.aload_n 0, 1) := by decide +kernel
set_option maxRecDepth 100000 in
theorem d_law_134 : decode code 134 = .ok (.iload 4, 2) := by decide +kernel
set_option maxRecDepth 100000 in
theorem d_law_136 : decode code 136 = .ok (.iconst 1, 1) := by decide +kernel
set_option maxRecDepth 100000 in
theorem d_law_137 : decode code 137 = .ok (.iadd, 1) := by decide +kernel
set_option maxRecDepth 100000 in
theorem d_law_138 : decode code 138 = .ok (.iaload, 1) := by decide +kernel
set_option maxRecDepth 100000 in
theorem d_law_139 : decode code 139 = .ok (.aload_n 0, 1) := by decide +kernel
set_option maxRecDepth 100000 in
theorem d_law_140 : decode code 140 = .ok (.iload 4, 2) := by decide +kernel
set_option maxRecDepth 100000 in
theorem d_law_142 : decode code 142 = .ok (.iconst 2, 1) := by decide +kernel
set_option maxRecDepth 100000 in
theorem d_law_143 : decode code 143 = .ok (.iadd, 1) := by decide +kernel
set_option maxRecDepth 100000 in
theorem d_law_144 : decode code 144 = .ok (.iaload, 1) := by decide +kernel
set_option maxRecDepth 100000 in
theorem d_law_145 : decode code 145 = .ok (.aload_n 0, 1) := by decide +kernel
set_option maxRecDepth 100000 in
theorem d_law_146 : decode code 146 = .ok (.iload 4, 2) := by decide +kernel
set_option maxRecDepth 100000 in
theorem d_law_148 : decode code 148 = .ok (.iconst 3, 1) := by decide +kernel
set_option maxRecDepth 100000 in
theorem d_law_149 : decode code 149 = .ok (.iadd, 1) := by decide +kernel
set_option maxRecDepth 100000 in
theorem d_law_150 : decode code 150 = .ok (.iaload, 1) := by decide +kernel
set_option maxRecDepth 100000 in
theorem d_law_151 : decode code 151 = .ok (.aload_n 0, 1) := by decide +kernel
set_option maxRecDepth 100000 in
theorem d_law_152 : decode code 152 = .ok (.iload 4, 2) := by decide +kernel
set_option maxRecDepth 100000 in
theorem d_law_154 : decode code 154 = .ok (.iconst 4, 1) := by decide +kernel
set_option maxRecDepth 100000 in
theorem d_law_155 : decode code 155 = .ok (.iadd, 1) := by decide +kernel
set_option maxRecDepth 100000 in
theorem d_law_156 : decode code 156 = .ok (.iaload, 1) := by decide +kernel
set_option maxRecDepth 100000 in
theorem d_law_157 : decode code 157 = .ok (.aload_n 3, 1) := by decide +kernel
set_option maxRecDepth 100000 in
theorem d_law_158 : decode code 158 = .ok (.invokestatic 76, 3) := by decide +kernel
set_option maxRecDepth 100000 in
theorem d_law_161 : decode code 161 = .ok (.istore 5, 2) := by decide +kernel
set_option maxRecDepth 100000 in
theorem d_law_163 : decode code 163 = .ok (.aload_n 2, 1) := by decide +kernel
set_option maxRecDepth 100000 in
theorem d_law_164 : decode code 164 = .ok (.aload_n 0, 1) := by decide +kernel
set_option maxRecDepth 100000 in
theorem d_law_165 : decode code 165 = .ok (.iload 4, 2) := by decide +kernel
set_option maxRecDepth 100000 in
theorem d_law_167 : decode code 167 = .ok (.iconst 1, 1) := by decide +kernel
set_option maxRecDepth 100000 in
theorem d_law_168 : decode code 168 = .ok (.iadd, 1) := by decide +kernel
set_option maxRecDepth 100000 in
theorem d_law_169 : decode code 169 = .ok (.iaload, 1) := by decide +kernel
set_option maxRecDepth 100000 in
theorem d_law_170 : decode code 170 = .ok (.aload_n 0, 1) := by decide +kernel
set_option maxRecDepth 100000 in
theorem d_law_171 : decode code 171 = .ok (.iload 4, 2) := by decide +kernel
set_option maxRecDepth 100000 in
theorem d_law_173 : decode code 173 = .ok (.iconst 2, 1) := by decide +kernel
set_option maxRecDepth 100000 in
theorem d_law_174 : decode code 174 = .ok (.iadd, 1) := by decide +kernel
set_option maxRecDepth 100000 in
theorem d_law_175 : decode code 175 = .ok (.iaload, 1) := by decide +kernel
set_option maxRecDepth 100000 in
theorem d_law_176 : decode code 176 = .ok (.aload_n 0, 1) := by decide +kernel
set_option maxRecDepth 100000 in
theorem d_law_177 : decode code 177 = .ok (.iload 4, 2) := by decide +kernel
set_option maxRecDepth 100000 in
theorem d_law_179 : decode code 179 = .ok (.iconst 3, 1) := by decide +kernel
set_option maxRecDepth 100000 in
theorem d_law_180 : decode code 180 = .ok (.iadd, 1) := by decide +kernel
set_option maxRecDepth 100000 in
theorem d_law_181 : decode code 181 = .ok (.iaload, 1) := by decide +kernel
set_option maxRecDepth 100000 in
theorem d_law_182 : decode code 182 = .ok (.aload_n 0, 1) := by decide +kernel
set_option maxRecDepth 100000 in
theorem d_law_183 : decode code 183 = .ok (.iload 4, 2) := by decide +kernel
set_option maxRecDepth 100000 in
theorem d_law_185 : decode code 185 = .ok (.iconst 4, 1) := by decide +kernel
set_option maxRecDepth 100000 in
theorem d_law_186 : decode code 186 = .ok (.iadd, 1) := by decide +kernel
set_option maxRecDepth 100000 in
theorem d_law_187 : decode code 187 = .ok (.iaload, 1) := by decide +kernel
set_option maxRecDepth 100000 in
theorem d_law_188 : decode code 188 = .ok (.invokevirtual 79, 3) := by decide +kernel
set_option maxRecDepth 100000 in
theorem d_law_191 : decode code 191 = .ok (.istore 6, 2) := by decide +kernel
set_option maxRecDepth 100000 in
theorem d_law_193 : decode code 193 = .ok (.aload_n 2, 1) := by decide +kernel
set_option maxRecDepth 100000 in
theorem d_law_194 : decode code 194 = .ok (.invokevirtual 80, 3) := by decide +kernel
set_option maxRecDepth 100000 in
theorem d_law_197 : decode code 197 = .ok (.iload 5, 2) := by decide +kernel
set_option maxRecDepth 100000 in
theorem d_law_199 : decode code 199 = .ok (.if_icmp .eq 5, 3) := by decide +kernel
set_option maxRecDepth 100000 in
theorem d_law_204 : decode code 204 = .ok (.iload 5, 2) := by decide +kernel
set_option maxRecDepth 100000 in
theorem d_law_206 : decode code 206 = .ok (.ifCond .ne 15, 3) := by decide +kernel
set_option maxRecDepth 100000 in
theorem d_law_209 : decode code 209 = .ok (.aload_n 3, 1) := by decide +kernel
set_option maxRecDepth 100000 in
theorem d_law_210 : decode code 210 = .ok (.iconst 0, 1) := by decide +kernel
set_option maxRecDepth 100000 in
theorem d_law_211 : decode code 211 = .ok (.laload, 1) := by decide +kernel
set_option maxRecDepth 100000 in
theorem d_law_212 : decode code 212 = .ok (.iload 6, 2) := by decide +kernel
set_option maxRecDepth 100000 in
theorem d_law_214 : decode code 214 = .ok (.i2l, 1) := by decide +kernel
set_option maxRecDepth 100000 in
theorem d_law_215 : decode code 215 = .ok (.lcmp, 1) := by decide +kernel
set_option maxRecDepth 100000 in
theorem d_law_216 : decode code 216 = .ok (.ifCond .eq 5, 3) := by decide +kernel
set_option maxRecDepth 100000 in
theorem d_law_221 : decode code 221 = .ok (.goto 952, 3) := by decide +kernel
set_option maxRecDepth 100000 in
theorem d_law_224 : decode code 224 = .ok (.aload_n 1, 1) := by decide +kernel
set_option maxRecDepth 100000 in
theorem d_law_225 : decode code 225 = .ok (.aload_n 0, 1) := by decide +kernel
set_option maxRecDepth 100000 in
theorem d_law_226 : decode code 226 = .ok (.iload 4, 2) := by decide +kernel
set_option maxRecDepth 100000 in
theorem d_law_228 : decode code 228 = .ok (.iconst 1, 1) := by decide +kernel
set_option maxRecDepth 100000 in
theorem d_law_229 : decode code 229 = .ok (.iadd, 1) := by decide +kernel
set_option maxRecDepth 100000 in
theorem d_law_230 : decode code 230 = .ok (.iaload, 1) := by decide +kernel
set_option maxRecDepth 100000 in
theorem d_law_231 : decode code 231 = .ok (.aload_n 0, 1) := by decide +kernel
set_option maxRecDepth 100000 in
theorem d_law_232 : decode code 232 = .ok (.iload 4, 2) := by decide +kernel
set_option maxRecDepth 100000 in
theorem d_law_234 : decode code 234 = .ok (.iconst 2, 1) := by decide +kernel
set_option maxRecDepth 100000 in
theorem d_law_235 : decode code 235 = .ok (.iadd, 1) := by decide +kernel
set_option maxRecDepth 100000 in
theorem d_law_236 : decode code 236 = .ok (.iaload, 1) := by decide +kernel
set_option maxRecDepth 100000 in
theorem d_law_237 : decode code 237 = .ok (.aload_n 0, 1) := by decide +kernel
set_option maxRecDepth 100000 in
theorem d_law_238 : decode code 238 = .ok (.iload 4, 2) := by decide +kernel
set_option maxRecDepth 100000 in
theorem d_law_240 : decode code 240 = .ok (.iconst 3, 1) := by decide +kernel
set_option maxRecDepth 100000 in
theorem d_law_241 : decode code 241 = .ok (.iadd, 1) := by decide +kernel
set_option maxRecDepth 100000 in
theorem d_law_242 : decode code 242 = .ok (.iaload, 1) := by decide +kernel
set_option maxRecDepth 100000 in
theorem d_law_243 : decode code 243 = .ok (.aload_n 0, 1) := by decide +kernel
set_option maxRecDepth 100000 in
theorem d_law_244 : decode code 244 = .ok (.iload 4, 2) := by decide +kernel
set_option maxRecDepth 100000 in
theorem d_law_246 : decode code 246 = .ok (.iconst 4, 1) := by decide +kernel
set_option maxRecDepth 100000 in
theorem d_law_247 : decode code 247 = .ok (.iadd, 1) := by decide +kernel
set_option maxRecDepth 100000 in
theorem d_law_248 : decode code 248 = .ok (.iaload, 1) := by decide +kernel
set_option maxRecDepth 100000 in
theorem d_law_249 : decode code 249 = .ok (.aload_n 3, 1) := by decide +kernel
set_option maxRecDepth 100000 in
theorem d_law_250 : decode code 250 = .ok (.invokestatic 84, 3) := by decide +kernel
set_option maxRecDepth 100000 in
theorem d_law_253 : decode code 253 = .ok (.istore 5, 2) := by decide +kernel
set_option maxRecDepth 100000 in
theorem d_law_255 : decode code 255 = .ok (.aload_n 2, 1) := by decide +kernel
set_option maxRecDepth 100000 in
theorem d_law_256 : decode code 256 = .ok (.aload_n 0, 1) := by decide +kernel
set_option maxRecDepth 100000 in
theorem d_law_257 : decode code 257 = .ok (.iload 4, 2) := by decide +kernel
set_option maxRecDepth 100000 in
theorem d_law_259 : decode code 259 = .ok (.iconst 1, 1) := by decide +kernel
set_option maxRecDepth 100000 in
theorem d_law_260 : decode code 260 = .ok (.iadd, 1) := by decide +kernel
set_option maxRecDepth 100000 in
theorem d_law_261 : decode code 261 = .ok (.iaload, 1) := by decide +kernel
set_option maxRecDepth 100000 in
theorem d_law_262 : decode code 262 = .ok (.aload_n 0, 1) := by decide +kernel
set_option maxRecDepth 100000 in
theorem d_law_263 : decode code 263 = .ok (.iload 4, 2) := by decide +kernel
set_option maxRecDepth 100000 in
theorem d_law_265 : decode code 265 = .ok (.iconst 2, 1) := by decide +kernel
set_option maxRecDepth 100000 in
theorem d_law_266 : decode code 266 = .ok (.iadd, 1) := by decide +kernel
set_option maxRecDepth 100000 in
theorem d_law_267 : decode code 267 = .ok (.iaload, 1) := by decide +kernel
set_option maxRecDepth 100000 in
theorem d_law_268 : decode code 268 = .ok (.aload_n 0, 1) := by decide +kernel
set_option maxRecDepth 100000 in
theorem d_law_269 : decode code 269 = .ok (.iload 4, 2) := by decide +kernel
set_option maxRecDepth 100000 in
theorem d_law_271 : decode code 271 = .ok (.iconst 3, 1) := by decide +kernel
set_option maxRecDepth 100000 in
theorem d_law_272 : decode code 272 = .ok (.iadd, 1) := by decide +kernel
set_option maxRecDepth 100000 in
theorem d_law_273 : decode code 273 = .ok (.iaload, 1) := by decide +kernel
set_option maxRecDepth 100000 in
theorem d_law_274 : decode code 274 = .ok (.aload_n 0, 1) := by decide +kernel
set_option maxRecDepth 100000 in
theorem d_law_275 : decode code 275 = .ok (.iload 4, 2) := by decide +kernel
set_option maxRecDepth 100000 in
theorem d_law_277 : decode code 277 = .ok (.iconst 4, 1) := by decide +kernel
set_option maxRecDepth 100000 in
theorem d_law_278 : decode code 278 = .ok (.iadd, 1) := by decide +kernel
set_option maxRecDepth 100000 in
theorem d_law_279 : decode code 279 = .ok (.iaload, 1) := by decide +kernel
set_option maxRecDepth 100000 in
theorem d_law_280 : decode code 280 = .ok (.invokevirtual 86, 3) := by decide +kernel
set_option maxRecDepth 100000 in
theorem d_law_283 : decode code 283 = .ok (.istore 6, 2) := by decide +kernel
set_option maxRecDepth 100000 in
theorem d_law_285 : decode code 285 = .ok (.aload_n 2, 1) := by decide +kernel
set_option maxRecDepth 100000 in
theorem d_law_286 : decode code 286 = .ok (.invokevirtual 80, 3) := by decide +kernel
set_option maxRecDepth 100000 in
theorem d_law_289 : decode code 289 = .ok (.iload 5, 2) := by decide +kernel
set_option maxRecDepth 100000 in
theorem d_law_291 : decode code 291 = .ok (.if_icmp .eq 5, 3) := by decide +kernel
set_option maxRecDepth 100000 in
theorem d_law_296 : decode code 296 = .ok (.iload 5, 2) := by decide +kernel
set_option maxRecDepth 100000 in
theorem d_law_298 : decode code 298 = .ok (.ifCond .ne 15, 3) := by decide +kernel
set_option maxRecDepth 100000 in
theorem d_law_301 : decode code 301 = .ok (.aload_n 3, 1) := by decide +kernel
set_option maxRecDepth 100000 in
theorem d_law_302 : decode code 302 = .ok (.iconst 0, 1) := by decide +kernel
set_option maxRecDepth 100000 in
theorem d_law_303 : decode code 303 = .ok (.laload, 1) := by decide +kernel
set_option maxRecDepth 100000 in
theorem d_law_304 : decode code 304 = .ok (.iload 6, 2) := by decide +kernel
set_option maxRecDepth 100000 in
theorem d_law_306 : decode code 306 = .ok (.i2l, 1) := by decide +kernel
set_option maxRecDepth 100000 in
theorem d_law_307 : decode code 307 = .ok (.lcmp, 1) := by decide +kernel
set_option maxRecDepth 100000 in
theorem d_law_308 : decode code 308 = .ok (.ifCond .eq 5, 3) := by decide +kernel
set_option maxRecDepth 100000 in
theorem d_law_313 : decode code 313 = .ok (.goto 860, 3) := by decide +kernel
set_option maxRecDepth 100000 in
theorem d_law_316 : decode code 316 = .ok (.aload_n 1, 1) := by decide +kernel
set_option maxRecDepth 100000 in
theorem d_law_317 : decode code 317 = .ok (.aload_n 0, 1) := by decide +kernel
set_option maxRecDepth 100000 in
theorem d_law_318 : decode code 318 = .ok (.iload 4, 2) := by decide +kernel
set_option maxRecDepth 100000 in
theorem d_law_320 : decode code 320 = .ok (.iconst 1, 1) := by decide +kernel
set_option maxRecDepth 100000 in
theorem d_law_321 : decode code 321 = .ok (.iadd, 1) := by decide +kernel
set_option maxRecDepth 100000 in
theorem d_law_322 : decode code 322 = .ok (.iaload, 1) := by decide +kernel
set_option maxRecDepth 100000 in
theorem d_law_323 : decode code 323 = .ok (.aload_n 0, 1) := by decide +kernel
set_option maxRecDepth 100000 in
theorem d_law_324 : decode code 324 = .ok (.iload 4, 2) := by decide +kernel
set_option maxRecDepth 100000 in
theorem d_law_326 : decode code 326 = .ok (.iconst 2, 1) := by decide +kernel
set_option maxRecDepth 100000 in
theorem d_law_327 : decode code 327 = .ok (.iadd, 1) := by decide +kernel
set_option maxRecDepth 100000 in
theorem d_law_328 : decode code 328 = .ok (.iaload, 1) := by decide +kernel
set_option maxRecDepth 100000 in
theorem d_law_329 : decode code 329 = .ok (.aload_n 3, 1) := by decide +kernel
set_option maxRecDepth 100000 in
theorem d_law_330 : decode code 330 = .ok (.invokestatic 87, 3) := by decide +kernel
set_option maxRecDepth 100000 in
theorem d_law_333 : decode code 333 = .ok (.istore 5, 2) := by decide +kernel
set_option maxRecDepth 100000 in
theorem d_law_335 : decode code 335 = .ok (.aload_n 2, 1) := by decide +kernel
set_option maxRecDepth 100000 in
theorem d_law_336 : decode code 336 = .ok (.aload_n 0, 1) := by decide +kernel
set_option maxRecDepth 100000 in
theorem d_law_337 : decode code 337 = .ok (.iload 4, 2) := by decide +kernel
set_option maxRecDepth 100000 in
theorem d_law_339 : decode code 339 = .ok (.iconst 1, 1) := by decide +kernel
set_option maxRecDepth 100000 in
theorem d_law_340 : decode code 340 = .ok (.iadd, 1) := by decide +kernel
set_option maxRecDepth 100000 in
theorem d_law_341 : decode code 341 = .ok (.iaload, 1) := by decide +kernel
set_option maxRecDepth 100000 in
theorem d_law_342 : decode code 342 = .ok (.aload_n 0, 1) := by decide +kernel
set_option maxRecDepth 100000 in
theorem d_law_343 : decode code 343 = .ok (.iload 4, 2) := by decide +kernel
set_option maxRecDepth 100000 in
theorem d_law_345 : decode code 345 = .ok (.iconst 2, 1) := by decide +kernel
set_option maxRecDepth 100000 in
theorem d_law_346 : decode code 346 = .ok (.iadd, 1) := by decide +kernel
set_option maxRecDepth 100000 in
theorem d_law_347 : decode code 347 = .ok (.iaload, 1) := by decide +kernel
set_option maxRecDepth 100000 in
theorem d_law_348 : decode code 348 = .ok (.invokevirtual 90, 3) := by decide +kernel
set_option maxRecDepth 100000 in
theorem d_law_351 : decode code 351 = .ok (.istore 6, 2) := by decide +kernel
set_option maxRecDepth 100000 in
theorem d_law_353 : decode code 353 = .ok (.aload_n 2, 1) := by decide +kernel
set_option maxRecDepth 100000 in
theorem d_law_354 : decode code 354 = .ok (.invokevirtual 80, 3) := by decide +kernel
set_option maxRecDepth 100000 in
theorem d_law_357 : decode code 357 = .ok (.iload 5, 2) := by decide +kernel
set_option maxRecDepth 100000 in
theorem d_law_359 : decode code 359 = .ok (.if_icmp .eq 5, 3) := by decide +kernel
set_option maxRecDepth 100000 in
theorem d_law_364 : decode code 364 = .ok (.iload 5, 2) := by decide +kernel
set_option maxRecDepth 100000 in
theorem d_law_366 : decode code 366 = .ok (.ifCond .ne 15, 3) := by decide +kernel
set_option maxRecDepth 100000 in
theorem d_law_369 : decode code 369 = .ok (.aload_n 3, 1) := by decide +kernel
set_option maxRecDepth 100000 in
theorem d_law_370 : decode code 370 = .ok (.iconst 0, 1) := by decide +kernel
set_option maxRecDepth 100000 in
theorem d_law_371 : decode code 371 = .ok (.laload, 1) := by decide +kernel
set_option maxRecDepth 100000 in
theorem d_law_372 : decode code 372 = .ok (.iload 6, 2) := by decide +kernel
set_option maxRecDepth 100000 in
theorem d_law_374 : decode code 374 = .ok (.i2l, 1) := by decide +kernel
set_option maxRecDepth 100000 in
theorem d_law_375 : decode code 375 = .ok (.lcmp, 1) := by decide +kernel
set_option maxRecDepth 100000 in
theorem d_law_376 : decode code 376 = .ok (.ifCond .eq 5, 3) := by decide +kernel
set_option maxRecDepth 100000 in
theorem d_law_381 : decode code 381 = .ok (.goto 792, 3) := by decide +kernel
set_option maxRecDepth 100000 in
theorem d_law_384 : decode code 384 = .ok (.aload_n 1, 1) := by decide +kernel
set_option maxRecDepth 100000 in
theorem d_law_385 : decode code 385 = .ok (.aload_n 0, 1) := by decide +kernel
set_option maxRecDepth 100000 in
theorem d_law_386 : decode code 386 = .ok (.iload 4, 2) := by decide +kernel
set_option maxRecDepth 100000 in
theorem d_law_388 : decode code 388 = .ok (.iconst 1, 1) := by decide +kernel
set_option maxRecDepth 100000 in
theorem d_law_389 : decode code 389 = .ok (.iadd, 1) := by decide +kernel
set_option maxRecDepth 100000 in
theorem d_law_390 : decode code 390 = .ok (.iaload, 1) := by decide +kernel
set_option maxRecDepth 100000 in
theorem d_law_391 : decode code 391 = .ok (.aload_n 0, 1) := by decide +kernel
set_option maxRecDepth 100000 in
theorem d_law_392 : decode code 392 = .ok (.iload 4, 2) := by decide +kernel
set_option maxRecDepth 100000 in
theorem d_law_394 : decode code 394 = .ok (.iconst 2, 1) := by decide +kernel
set_option maxRecDepth 100000 in
theorem d_law_395 : decode code 395 = .ok (.iadd, 1) := by decide +kernel
set_option maxRecDepth 100000 in
theorem d_law_396 : decode code 396 = .ok (.iaload, 1) := by decide +kernel
set_option maxRecDepth 100000 in
theorem d_law_397 : decode code 397 = .ok (.aload_n 0, 1) := by decide +kernel
set_option maxRecDepth 100000 in
theorem d_law_398 : decode code 398 = .ok (.iload 4, 2) := by decide +kernel
set_option maxRecDepth 100000 in
theorem d_law_400 : decode code 400 = .ok (.iconst 3, 1) := by decide +kernel
set_option maxRecDepth 100000 in
theorem d_law_401 : decode code 401 = .ok (.iadd, 1) := by decide +kernel
set_option maxRecDepth 100000 in
theorem d_law_402 : decode code 402 = .ok (.iaload, 1) := by decide +kernel
set_option maxRecDepth 100000 in
theorem d_law_403 : decode code 403 = .ok (.aload_n 3, 1) := by decide +kernel
set_option maxRecDepth 100000 in
theorem d_law_404 : decode code 404 = .ok (.invokestatic 91, 3) := by decide +kernel
set_option maxRecDepth 100000 in
theorem d_law_407 : decode code 407 = .ok (.istore 5, 2) := by decide +kernel
set_option maxRecDepth 100000 in
theorem d_law_409 : decode code 409 = .ok (.aload_n 2, 1) := by decide +kernel
set_option maxRecDepth 100000 in
theorem d_law_410 : decode code 410 = .ok (.aload_n 0, 1) := by decide +kernel
set_option maxRecDepth 100000 in
theorem d_law_411 : decode code 411 = .ok (.iload 4, 2) := by decide +kernel
set_option maxRecDepth 100000 in
theorem d_law_413 : decode code 413 = .ok (.iconst 1, 1) := by decide +kernel
set_option maxRecDepth 100000 in
theorem d_law_414 : decode code 414 = .ok (.iadd, 1) := by decide +kernel
set_option maxRecDepth 100000 in
theorem d_law_415 : decode code 415 = .ok (.iaload, 1) := by decide +kernel
set_option maxRecDepth 100000 in
theorem d_law_416 : decode code 416 = .ok (.aload_n 0, 1) := by decide +kernel
set_option maxRecDepth 100000 in
theorem d_law_417 : decode code 417 = .ok (.iload 4, 2) := by decide +kernel
set_option maxRecDepth 100000 in
theorem d_law_419 : decode code 419 = .ok (.iconst 2, 1) := by decide +kernel
set_option maxRecDepth 100000 in
theorem d_law_420 : decode code 420 = .ok (.iadd, 1) := by decide +kernel
set_option maxRecDepth 100000 in
theorem d_law_421 : decode code 421 = .ok (.iaload, 1) := by decide +kernel
set_option maxRecDepth 100000 in
theorem d_law_422 : decode code 422 = .ok (.aload_n 0, 1) := by decide +kernel
set_option maxRecDepth 100000 in
theorem d_law_423 : decode code 423 = .ok (.iload 4, 2) := by decide +kernel
set_option maxRecDepth 100000 in
theorem d_law_425 : decode code 425 = .ok (.iconst 3, 1) := by decide +kernel
set_option maxRecDepth 100000 in
theorem d_law_426 : decode code 426 = .ok (.iadd, 1) := by decide +kernel
set_option maxRecDepth 100000 in
theorem d_law_427 : decode code 427 = .ok (.iaload, 1) := by decide +kernel
set_option maxRecDepth 100000 in
theorem d_law_428 : decode code 428 = .ok (.invokevirtual 94, 3) := by decide +kernel
set_option maxRecDepth 100000 in
theorem d_law_431 : decode code 431 = .ok (.istore 6, 2) := by decide +kernel
set_option maxRecDepth 100000 in
theorem d_law_433 : decode code 433 = .ok (.aload_n 2, 1) := by decide +kernel
set_option maxRecDepth 100000 in
theorem d_law_434 : decode code 434 = .ok (.invokevirtual 80, 3) := by decide +kernel
set_option maxRecDepth 100000 in
theorem d_law_437 : decode code 437 = .ok (.iload 5, 2) := by decide +kernel
set_option maxRecDepth 100000 in
theorem d_law_439 : decode code 439 = .ok (.if_icmp .eq 5, 3) := by decide +kernel
set_option maxRecDepth 100000 in
theorem d_law_444 : decode code 444 = .ok (.iload 5, 2) := by decide +kernel
set_option maxRecDepth 100000 in
theorem d_law_446 : decode code 446 = .ok (.ifCond .ne 15, 3) := by decide +kernel
set_option maxRecDepth 100000 in
theorem d_law_449 : decode code 449 = .ok (.aload_n 3, 1) := by decide +kernel
set_option maxRecDepth 100000 in
theorem d_law_450 : decode code 450 = .ok (.iconst 0, 1) := by decide +kernel
set_option maxRecDepth 100000 in
theorem d_law_451 : decode code 451 = .ok (.laload, 1) := by decide +kernel
set_option maxRecDepth 100000 in
theorem d_law_452 : decode code 452 = .ok (.iload 6, 2) := by decide +kernel
set_option maxRecDepth 100000 in
theorem d_law_454 : decode code 454 = .ok (.i2l, 1) := by decide +kernel
set_option maxRecDepth 100000 in
theorem d_law_455 : decode code 455 = .ok (.lcmp, 1) := by decide +kernel
set_option maxRecDepth 100000 in
theorem d_law_456 : decode code 456 = .ok (.ifCond .eq 5, 3) := by decide +kernel
set_option maxRecDepth 100000 in
theorem d_law_461 : decode code 461 = .ok (.goto 712, 3) := by decide +kernel
set_option maxRecDepth 100000 in
theorem d_law_464 : decode code 464 = .ok (.aload_n 1, 1) := by decide +kernel
set_option maxRecDepth 100000 in
theorem d_law_465 : decode code 465 = .ok (.aload_n 0, 1) := by decide +kernel
set_option maxRecDepth 100000 in
theorem d_law_466 : decode code 466 = .ok (.iload 4, 2) := by decide +kernel
set_option maxRecDepth 100000 in
theorem d_law_468 : decode code 468 = .ok (.iconst 1, 1) := by decide +kernel
set_option maxRecDepth 100000 in
theorem d_law_469 : decode code 469 = .ok (.iadd, 1) := by decide +kernel
set_option maxRecDepth 100000 in
theorem d_law_470 : decode code 470 = .ok (.iaload, 1) := by decide +kernel
set_option maxRecDepth 100000 in
theorem d_law_471 : decode code 471 = .ok (.aload_n 3, 1) := by decide +kernel
set_option maxRecDepth 100000 in
theorem d_law_472 : decode code 472 = .ok (.invokestatic 95, 3) := by decide +kernel
set_option maxRecDepth 100000 in
theorem d_law_475 : decode code 475 = .ok (.istore 5, 2) := by decide +kernel
set_option maxRecDepth 100000 in
theorem d_law_477 : decode code 477 = .ok (.aload_n 2, 1) := by decide +kernel
set_option maxRecDepth 100000 in
theorem d_law_478 : decode code 478 = .ok (.aload_n 0, 1) := by decide +kernel
set_option maxRecDepth 100000 in
theorem d_law_479 : decode code 479 = .ok (.iload 4, 2) := by decide +kernel
set_option maxRecDepth 100000 in
theorem d_law_481 : decode code 481 = .ok (.iconst 1, 1) := by decide +kernel
set_option maxRecDepth 100000 in
theorem d_law_482 : decode code 482 = .ok (.iadd, 1) := by decide +kernel
set_option maxRecDepth 100000 in
theorem d_law_483 : decode code 483 = .ok (.iaload, 1) := by decide +kernel
set_option maxRecDepth 100000 in
theorem d_law_484 : decode code 484 = .ok (.invokevirtual 98, 3) := by decide +kernel
set_option maxRecDepth 100000 in
theorem d_law_487 : decode code 487 = .ok (.istore 6, 2) := by decide +kernel
set_option maxRecDepth 100000 in
theorem d_law_489 : decode code 489 = .ok (.aload_n 2, 1) := by decide +kernel
set_option maxRecDepth 100000 in
theorem d_law_490 : decode code 490 = .ok (.invokevirtual 80, 3) := by decide +kernel
set_option maxRecDepth 100000 in
theorem d_law_493 : decode code 493 = .ok (.iload 5, 2) := by decide +kernel
set_option maxRecDepth 100000 in
theorem d_law_495 : decode code 495 = .ok (.if_icmp .eq 5, 3) := by decide +kernel
set_option maxRecDepth 100000 in
theorem d_law_500 : decode code 500 = .ok (.iload 5, 2) := by decide +kernel
set_option maxRecDepth 100000 in
theorem d_law_502 : decode code 502 = .ok (.ifCond .ne 15, 3) := by decide +kernel
set_option maxRecDepth 100000 in
theorem d_law_505 : decode code 505 = .ok (.aload_n 3, 1) := by decide +kernel
set_option maxRecDepth 100000 in
theorem d_law_506 : decode code 506 = .ok (.iconst 0, 1) := by decide +kernel
set_option maxRecDepth 100000 in
theorem d_law_507 : decode code 507 = .ok (.laload, 1) := by decide +kernel
set_option maxRecDepth 100000 in
theorem d_law_508 : decode code 508 = .ok (.iload 6, 2) := by decide +kernel
set_option maxRecDepth 100000 in
theorem d_law_510 : decode code 510 = .ok (.i2l, 1) := by decide +kernel
set_option maxRecDepth 100000 in
theorem d_law_511 : decode code 511 = .ok (.lcmp, 1) := by decide +kernel
set_option maxRecDepth 100000 in
theorem d_law_512 : decode code 512 = .ok (.ifCond .eq 5, 3) := by decide +kernel
set_option maxRecDepth 100000 in
theorem d_law_517 : decode code 517 = .ok (.goto 656, 3) := by decide +kernel
set_option maxRecDepth 100000 in
theorem d_law_520 : decode code 520 = .ok (.aload_n 1, 1) := by decide +kernel
set_option maxRecDepth 100000 in
theorem d_law_521 : decode code 521 = .ok (.aload_n 0, 1) := by decide +kernel
set_option maxRecDepth 100000 in
theorem d_law_522 : decode code 522 = .ok (.iload 4, 2) := by decide +kernel
set_option maxRecDepth 100000 in
theorem d_law_524 : decode code 524 = .ok (.iconst 1, 1) := by decide +kernel
set_option maxRecDepth 100000 in
theorem d_law_525 : decode code 525 = .ok (.iadd, 1) := by decide +kernel
set_option maxRecDepth 100000 in
theorem d_law_526 : decode code 526 = .ok (.iaload, 1) := by decide +kernel
set_option maxRecDepth 100000 in
theorem d_law_527 : decode code 527 = .ok (.aload_n 0, 1) := by decide +kernel
set_option maxRecDepth 100000 in
theorem d_law_528 : decode code 528 = .ok (.iload 4, 2) := by decide +kernel
set_option maxRecDepth 100000 in
theorem d_law_530 : decode code 530 = .ok (.iconst 2, 1) := by decide +kernel
set_option maxRecDepth 100000 in
theorem d_law_531 : decode code 531 = .ok (.iadd, 1) := by decide +kernel
set_option maxRecDepth 100000 in
theorem d_law_532 : decode code 532 = .ok (.iaload, 1) := by decide +kernel
set_option maxRecDepth 100000 in
theorem d_law_533 : decode code 533 = .ok (.aload_n 3, 1) := by decide +kernel
set_option maxRecDepth 100000 in
theorem d_law_534 : decode code 534 = .ok (.invokestatic 99, 3) := by decide +kernel
set_option maxRecDepth 100000 in
theorem d_law_537 : decode code 537 = .ok (.istore 5, 2) := by decide +kernel
set_option maxRecDepth 100000 in
theorem d_law_539 : decode code 539 = .ok (.aload_n 2, 1) := by decide +kernel
set_option maxRecDepth 100000 in
theorem d_law_540 : decode code 540 = .ok (.aload_n 0, 1) := by decide +kernel
set_option maxRecDepth 100000 in
theorem d_law_541 : decode code 541 = .ok (.iload 4, 2) := by decide +kernel
set_option maxRecDepth 100000 in
theorem d_law_543 : decode code 543 = .ok (.iconst 1, 1) := by decide +kernel
set_option maxRecDepth 100000 in
theorem d_law_544 : decode code 544 = .ok (.iadd, 1) := by decide +kernel
set_option maxRecDepth 100000 in
theorem d_law_545 : decode code 545 = .ok (.iaload, 1) := by decide +kernel
set_option maxRecDepth 100000 in
theorem d_law_546 : decode code 546 = .ok (.aload_n 0, 1) := by decide +kernel
set_option maxRecDepth 100000 in
theorem d_law_547 : decode code 547 = .ok (.iload 4, 2) := by decide +kernel
set_option maxRecDepth 100000 in
theorem d_law_549 : decode code 549 = .ok (.iconst 2, 1) := by decide +kernel
set_option maxRecDepth 100000 in
theorem d_law_550 : decode code 550 = .ok (.iadd, 1) := by decide +kernel
set_option maxRecDepth 100000 in
theorem d_law_551 : decode code 551 = .ok (.iaload, 1) := by decide +kernel
set_option maxRecDepth 100000 in
theorem d_law_552 : decode code 552 = .ok (.invokevirtual 101, 3) := by decide +kernel
set_option maxRecDepth 100000 in
theorem d_law_555 : decode code 555 = .ok (.istore 6, 2) := by decide +kernel
set_option maxRecDepth 100000 in
theorem d_law_557 : decode code 557 = .ok (.aload_n 2, 1) := by decide +kernel
set_option maxRecDepth 100000 in
theorem d_law_558 : decode code 558 = .ok (.invokevirtual 80, 3) := by decide +kernel
set_option maxRecDepth 100000 in
theorem d_law_561 : decode code 561 = .ok (.iload 5, 2) := by decide +kernel
set_option maxRecDepth 100000 in
theorem d_law_563 : decode code 563 = .ok (.if_icmp .eq 5, 3) := by decide +kernel
set_option maxRecDepth 100000 in
theorem d_law_568 : decode code 568 = .ok (.iload 5, 2) := by decide +kernel
set_option maxRecDepth 100000 in
theorem d_law_570 : decode code 570 = .ok (.ifCond .ne 15, 3) := by decide +kernel
set_option maxRecDepth 100000 in
theorem d_law_573 : decode code 573 = .ok (.aload_n 3, 1) := by decide +kernel
set_option maxRecDepth 100000 in
theorem d_law_574 : decode code 574 = .ok (.iconst 0, 1) := by decide +kernel
set_option maxRecDepth 100000 in
theorem d_law_575 : decode code 575 = .ok (.laload, 1) := by decide +kernel
set_option maxRecDepth 100000 in
theorem d_law_576 : decode code 576 = .ok (.iload 6, 2) := by decide +kernel
set_option maxRecDepth 100000 in
theorem d_law_578 : decode code 578 = .ok (.i2l, 1) := by decide +kernel
set_option maxRecDepth 100000 in
theorem d_law_579 : decode code 579 = .ok (.lcmp, 1) := by decide +kernel
set_option maxRecDepth 100000 in
theorem d_law_580 : decode code 580 = .ok (.ifCond .eq 5, 3) := by decide +kernel
set_option maxRecDepth 100000 in
theorem d_law_585 : decode code 585 = .ok (.goto 588, 3) := by decide +kernel
set_option maxRecDepth 100000 in
theorem d_law_588 : decode code 588 = .ok (.aload_n 1, 1) := by decide +kernel
set_option maxRecDepth 100000 in
theorem d_law_589 : decode code 589 = .ok (.aload_n 0, 1) := by decide +kernel
set_option maxRecDepth 100000 in
theorem d_law_590 : decode code 590 = .ok (.iload 4, 2) := by decide +kernel
set_option maxRecDepth 100000 in
theorem d_law_592 : decode code 592 = .ok (.iconst 1, 1) := by decide +kernel
set_option maxRecDepth 100000 in
theorem d_law_593 : decode code 593 = .ok (.iadd, 1) := by decide +kernel
set_option maxRecDepth 100000 in
theorem d_law_594 : decode code 594 = .ok (.iaload, 1) := by decide +kernel
set_option maxRecDepth 100000 in
theorem d_law_595 : decode code 595 = .ok (.aload_n 3, 1) := by decide +kernel
set_option maxRecDepth 100000 in
theorem d_law_596 : decode code 596 = .ok (.invokestatic 102, 3) := by decide +kernel
set_option maxRecDepth 100000 in
theorem d_law_599 : decode code 599 = .ok (.istore 5, 2) := by decide +kernel
set_option maxRecDepth 100000 in
theorem d_law_601 : decode code 601 = .ok (.aload_n 2, 1) := by decide +kernel
set_option maxRecDepth 100000 in
theorem d_law_602 : decode code 602 = .ok (.aload_n 0, 1) := by decide +kernel
set_option maxRecDepth 100000 in
theorem d_law_603 : decode code 603 = .ok (.iload 4, 2) := by decide +kernel
set_option maxRecDepth 100000 in
theorem d_law_605 : decode code 605 = .ok (.iconst 1, 1) := by decide +kernel
set_option maxRecDepth 100000 in
theorem d_law_606 : decode code 606 = .ok (.iadd, 1) := by decide +kernel
set_option maxRecDepth 100000 in
theorem d_law_607 : decode code 607 = .ok (.iaload, 1) := by decide +kernel
set_option maxRecDepth 100000 in
theorem d_law_608 : decode code 608 = .ok (.invokevirtual 104, 3) := by decide +kernel
set_option maxRecDepth 100000 in
theorem d_law_611 : decode code 611 = .ok (.istore 6, 2) := by decide +kernel
set_option maxRecDepth 100000 in
theorem d_law_613 : decode code 613 = .ok (.aload_n 2, 1) := by decide +kernel
set_option maxRecDepth 100000 in
theorem d_law_614 : decode code 614 = .ok (.invokevirtual 80, 3) := by decide +kernel
set_option maxRecDepth 100000 in
theorem d_law_617 : decode code 617 = .ok (.iload 5, 2) := by decide +kernel
set_option maxRecDepth 100000 in
theorem d_law_619 : decode code 619 = .ok (.if_icmp .eq 5, 3) := by decide +kernel
set_option maxRecDepth 100000 in
theorem d_law_624 : decode code 624 = .ok (.iload 5, 2) := by decide +kernel
set_option maxRecDepth 100000 in
theorem d_law_626 : decode code 626 = .ok (.ifCond .ne 15, 3) := by decide +kernel
set_option maxRecDepth 100000 in
theorem d_law_629 : decode code 629 = .ok (.aload_n 3, 1) := by decide +kernel
set_option maxRecDepth 100000 in
theorem d_law_630 : decode code 630 = .ok (.iconst 0, 1) := by decide +kernel
set_option maxRecDepth 100000 in
theorem d_law_631 : decode code 631 = .ok (.laload, 1) := by decide +kernel
set_option maxRecDepth 100000 in
theorem d_law_632 : decode code 632 = .ok (.iload 6, 2) := by decide +kernel
set_option maxRecDepth 100000 in
theorem d_law_634 : decode code 634 = .ok (.i2l, 1) := by decide +kernel
set_option maxRecDepth 100000 in
theorem d_law_635 : decode code 635 = .ok (.lcmp, 1) := by decide +kernel
set_option maxRecDepth 100000 in
theorem d_law_636 : decode code 636 = .ok (.ifCond .eq 5, 3) := by decide +kernel
set_option maxRecDepth 100000 in
theorem d_law_641 : decode code 641 = .ok (.goto 532, 3) := by decide +kernel
set_option maxRecDepth 100000 in
theorem d_law_644 : decode code 644 = .ok (.aload_n 1, 1) := by decide +kernel
set_option maxRecDepth 100000 in
theorem d_law_645 : decode code 645 = .ok (.aload_n 0, 1) := by decide +kernel
set_option maxRecDepth 100000 in
theorem d_law_646 : decode code 646 = .ok (.iload 4, 2) := by decide +kernel
set_option maxRecDepth 100000 in
theorem d_law_648 : decode code 648 = .ok (.iconst 1, 1) := by decide +kernel
set_option maxRecDepth 100000 in
theorem d_law_649 : decode code 649 = .ok (.iadd, 1) := by decide +kernel
set_option maxRecDepth 100000 in
theorem d_law_650 : decode code 650 = .ok (.iaload, 1) := by decide +kernel
set_option maxRecDepth 100000 in
theorem d_law_651 : decode code 651 = .ok (.aload_n 3, 1) := by decide +kernel
set_option maxRecDepth 100000 in
theorem d_law_652 : decode code 652 = .ok (.invokestatic 105, 3) := by decide +kernel
set_option maxRecDepth 100000 in
theorem d_law_655 : decode code 655 = .ok (.istore 5, 2) := by decide +kernel
set_option maxRecDepth 100000 in
theorem d_law_657 : decode code 657 = .ok (.aload_n 2, 1) := by decide +kernel
set_option maxRecDepth 100000 in
theorem d_law_658 : decode code 658 = .ok (.aload_n 0, 1) := by decide +kernel
set_option maxRecDepth 100000 in
theorem d_law_659 : decode code 659 = .ok (.iload 4, 2) := by decide +kernel
set_option maxRecDepth 100000 in
theorem d_law_661 : decode code 661 = .ok (.iconst 1, 1) := by decide +kernel
set_option maxRecDepth 100000 in
theorem d_law_662 : decode code 662 = .ok (.iadd, 1) := by decide +kernel
set_option maxRecDepth 100000 in
theorem d_law_663 : decode code 663 = .ok (.iaload, 1) := by decide +kernel
set_option maxRecDepth 100000 in
theorem d_law_664 : decode code 664 = .ok (.invokevirtual 107, 3) := by decide +kernel
set_option maxRecDepth 100000 in
theorem d_law_667 : decode code 667 = .ok (.istore 6, 2) := by decide +kernel
set_option maxRecDepth 100000 in
theorem d_law_669 : decode code 669 = .ok (.aload_n 2, 1) := by decide +kernel
set_option maxRecDepth 100000 in
theorem d_law_670 : decode code 670 = .ok (.invokevirtual 80, 3) := by decide +kernel
set_option maxRecDepth 100000 in
theorem d_law_673 : decode code 673 = .ok (.iload 5, 2) := by decide +kernel
set_option maxRecDepth 100000 in
theorem d_law_675 : decode code 675 = .ok (.if_icmp .eq 5, 3) := by decide +kernel
set_option maxRecDepth 100000 in
theorem d_law_680 : decode code 680 = .ok (.iload 5, 2) := by decide +kernel
set_option maxRecDepth 100000 in
theorem d_law_682 : decode code 682 = .ok (.ifCond .ne 15, 3) := by decide +kernel
set_option maxRecDepth 100000 in
theorem d_law_685 : decode code 685 = .ok (.aload_n 3, 1) := by decide +kernel
set_option maxRecDepth 100000 in
theorem d_law_686 : decode code 686 = .ok (.iconst 0, 1) := by decide +kernel
set_option maxRecDepth 100000 in
theorem d_law_687 : decode code 687 = .ok (.laload, 1) := by decide +kernel
set_option maxRecDepth 100000 in
theorem d_law_688 : decode code 688 = .ok (.iload 6, 2) := by decide +kernel
set_option maxRecDepth 100000 in
theorem d_law_690 : decode code 690 = .ok (.i2l, 1) := by decide +kernel
set_option maxRecDepth 100000 in
theorem d_law_691 : decode code 691 = .ok (.lcmp, 1) := by decide +kernel
set_option maxRecDepth 100000 in
theorem d_law_692 : decode code 692 = .ok (.ifCond .eq 5, 3) := by decide +kernel
set_option maxRecDepth 100000 in
theorem d_law_697 : decode code 697 = .ok (.goto 476, 3) := by decide +kernel
set_option maxRecDepth 100000 in
theorem d_law_700 : decode code 700 = .ok (.aload_n 1, 1) := by decide +kernel
set_option maxRecDepth 100000 in
theorem d_law_701 : decode code 701 = .ok (.aload_n 0, 1) := by decide +kernel
set_option maxRecDepth 100000 in
theorem d_law_702 : decode code 702 = .ok (.iload 4, 2) := by decide +kernel
set_option maxRecDepth 100000 in
theorem d_law_704 : decode code 704 = .ok (.iconst 1, 1) := by decide +kernel
set_option maxRecDepth 100000 in
theorem d_law_705 : decode code 705 = .ok (.iadd, 1) := by decide +kernel
set_option maxRecDepth 100000 in
theorem d_law_706 : decode code 706 = .ok (.iaload, 1) := by decide +kernel
set_option maxRecDepth 100000 in
theorem d_law_707 : decode code 707 = .ok (.aload_n 3, 1) := by decide +kernel
set_option maxRecDepth 100000 in
theorem d_law_708 : decode code 708 = .ok (.invokestatic 108, 3) := by decide +kernel
set_option maxRecDepth 100000 in
theorem d_law_711 : decode code 711 = .ok (.istore 5, 2) := by decide +kernel
set_option maxRecDepth 100000 in
theorem d_law_713 : decode code 713 = .ok (.aload_n 2, 1) := by decide +kernel
set_option maxRecDepth 100000 in
theorem d_law_714 : decode code 714 = .ok (.aload_n 0, 1) := by decide +kernel
set_option maxRecDepth 100000 in
theorem d_law_715 : decode code 715 = .ok (.iload 4, 2) := by decide +kernel
set_option maxRecDepth 100000 in
theorem d_law_717 : decode code 717 = .ok (.iconst 1, 1) := by decide +kernel
set_option maxRecDepth 100000 in
theorem d_law_718 : decode code 718 = .ok (.iadd, 1) := by decide +kernel
set_option maxRecDepth 100000 in
theorem d_law_719 : decode code 719 = .ok (.iaload, 1) := by decide +kernel
set_option maxRecDepth 100000 in
theorem d_law_720 : decode code 720 = .ok (.invokevirtual 110, 3) := by decide +kernel
set_option maxRecDepth 100000 in
theorem d_law_723 : decode code 723 = .ok (.istore 6, 2) := by decide +kernel
set_option maxRecDepth 100000 in
theorem d_law_725 : decode code 725 = .ok (.aload_n 2, 1) := by decide +kernel
set_option maxRecDepth 100000 in
theorem d_law_726 : decode code 726 = .ok (.invokevirtual 80, 3) := by decide +kernel
set_option maxRecDepth 100000 in
theorem d_law_729 : decode code 729 = .ok (.iload 5, 2) := by decide +kernel
set_option maxRecDepth 100000 in
theorem d_law_731 : decode code 731 = .ok (.if_icmp .eq 5, 3) := by decide +kernel
set_option maxRecDepth 100000 in
theorem d_law_736 : decode code 736 = .ok (.iload 5, 2) := by decide +kernel
set_option maxRecDepth 100000 in
theorem d_law_738 : decode code 738 = .ok (.ifCond .ne 15, 3) := by decide +kernel
set_option maxRecDepth 100000 in
theorem d_law_741 : decode code 741 = .ok (.aload_n 3, 1) := by decide +kernel
set_option maxRecDepth 100000 in
theorem d_law_742 : decode code 742 = .ok (.iconst 0, 1) := by decide +kernel
set_option maxRecDepth 100000 in
theorem d_law_743 : decode code 743 = .ok (.laload, 1) := by decide +kernel
set_option maxRecDepth 100000 in
theorem d_law_744 : decode code 744 = .ok (.iload 6, 2) := by decide +kernel
set_option maxRecDepth 100000 in
theorem d_law_746 : decode code 746 = .ok (.i2l, 1) := by decide +kernel
set_option maxRecDepth 100000 in
theorem d_law_747 : decode code 747 = .ok (.lcmp, 1) := by decide +kernel
set_option maxRecDepth 100000 in
theorem d_law_748 : decode code 748 = .ok (.ifCond .eq 5, 3) := by decide +kernel
set_option maxRecDepth 100000 in
theorem d_law_753 : decode code 753 = .ok (.goto 420, 3) := by decide +kernel
set_option maxRecDepth 100000 in
theorem d_law_756 : decode code 756 = .ok (.aload_n 1, 1) := by decide +kernel
set_option maxRecDepth 100000 in
theorem d_law_757 : decode code 757 = .ok (.aload_n 0, 1) := by decide +kernel
set_option maxRecDepth 100000 in
theorem d_law_758 : decode code 758 = .ok (.iload 4, 2) := by decide +kernel
set_option maxRecDepth 100000 in
theorem d_law_760 : decode code 760 = .ok (.iconst 1, 1) := by decide +kernel
set_option maxRecDepth 100000 in
theorem d_law_761 : decode code 761 = .ok (.iadd, 1) := by decide +kernel
set_option maxRecDepth 100000 in
theorem d_law_762 : decode code 762 = .ok (.iaload, 1) := by decide +kernel
set_option maxRecDepth 100000 in
theorem d_law_763 : decode code 763 = .ok (.aload_n 0, 1) := by decide +kernel
set_option maxRecDepth 100000 in
theorem d_law_764 : decode code 764 = .ok (.iload 4, 2) := by decide +kernel
set_option maxRecDepth 100000 in
theorem d_law_766 : decode code 766 = .ok (.iconst 2, 1) := by decide +kernel
set_option maxRecDepth 100000 in
theorem d_law_767 : decode code 767 = .ok (.iadd, 1) := by decide +kernel
set_option maxRecDepth 100000 in
theorem d_law_768 : decode code 768 = .ok (.iaload, 1) := by decide +kernel
set_option maxRecDepth 100000 in
theorem d_law_769 : decode code 769 = .ok (.aload_n 3, 1) := by decide +kernel
set_option maxRecDepth 100000 in
theorem d_law_770 : decode code 770 = .ok (.invokestatic 111, 3) := by decide +kernel
set_option maxRecDepth 100000 in
theorem d_law_773 : decode code 773 = .ok (.istore 5, 2) := by decide +kernel
set_option maxRecDepth 100000 in
theorem d_law_775 : decode code 775 = .ok (.aload_n 2, 1) := by decide +kernel
set_option maxRecDepth 100000 in
theorem d_law_776 : decode code 776 = .ok (.aload_n 0, 1) := by decide +kernel
set_option maxRecDepth 100000 in
theorem d_law_777 : decode code 777 = .ok (.iload 4, 2) := by decide +kernel
set_option maxRecDepth 100000 in
theorem d_law_779 : decode code 779 = .ok (.iconst 1, 1) := by decide +kernel
set_option maxRecDepth 100000 in
theorem d_law_780 : decode code 780 = .ok (.iadd, 1) := by decide +kernel
set_option maxRecDepth 100000 in
theorem d_law_781 : decode code 781 = .ok (.iaload, 1) := by decide +kernel
set_option maxRecDepth 100000 in
theorem d_law_782 : decode code 782 = .ok (.aload_n 0, 1) := by decide +kernel
set_option maxRecDepth 100000 in
theorem d_law_783 : decode code 783 = .ok (.iload 4, 2) := by decide +kernel
set_option maxRecDepth 100000 in
theorem d_law_785 : decode code 785 = .ok (.iconst 2, 1) := by decide +kernel
set_option maxRecDepth 100000 in
theorem d_law_786 : decode code 786 = .ok (.iadd, 1) := by decide +kernel
set_option maxRecDepth 100000 in
theorem d_law_787 : decode code 787 = .ok (.iaload, 1) := by decide +kernel
set_option maxRecDepth 100000 in
theorem d_law_788 : decode code 788 = .ok (.invokevirtual 113, 3) := by decide +kernel
set_option maxRecDepth 100000 in
theorem d_law_791 : decode code 791 = .ok (.istore 6, 2) := by decide +kernel
set_option maxRecDepth 100000 in
theorem d_law_793 : decode code 793 = .ok (.aload_n 2, 1) := by decide +kernel
set_option maxRecDepth 100000 in
theorem d_law_794 : decode code 794 = .ok (.invokevirtual 80, 3) := by decide +kernel
set_option maxRecDepth 100000 in
theorem d_law_797 : decode code 797 = .ok (.iload 5, 2) := by decide +kernel
set_option maxRecDepth 100000 in
theorem d_law_799 : decode code 799 = .ok (.if_icmp .eq 5, 3) := by decide +kernel
set_option maxRecDepth 100000 in
theorem d_law_804 : decode code 804 = .ok (.iload 5, 2) := by decide +kernel
set_option maxRecDepth 100000 in
theorem d_law_806 : decode code 806 = .ok (.ifCond .ne 15, 3) := by decide +kernel
set_option maxRecDepth 100000 in
theorem d_law_809 : decode code 809 = .ok (.aload_n 3, 1) := by decide +kernel
set_option maxRecDepth 100000 in
theorem d_law_810 : decode code 810 = .ok (.iconst 0, 1) := by decide +kernel
set_option maxRecDepth 100000 in
theorem d_law_811 : decode code 811 = .ok (.laload, 1) := by decide +kernel
set_option maxRecDepth 100000 in
theorem d_law_812 : decode code 812 = .ok (.iload 6, 2) := by decide +kernel
set_option maxRecDepth 100000 in
theorem d_law_814 : decode code 814 = .ok (.i2l, 1) := by decide +kernel
set_option maxRecDepth 100000 in
theorem d_law_815 : decode code 815 = .ok (.lcmp, 1) := by decide +kernel
set_option maxRecDepth 100000 in
theorem d_law_816 : decode code 816 = .ok (.ifCond .eq 5, 3) := by decide +kernel
set_option maxRecDepth 100000 in
theorem d_law_821 : decode code 821 = .ok (.goto 352, 3) := by decide +kernel
set_option maxRecDepth 100000 in
theorem d_law_824 : decode code 824 = .ok (.aload_n 1, 1) := by decide +kernel
set_option maxRecDepth 100000 in
theorem d_law_825 : decode code 825 = .ok (.aload_n 0, 1) := by decide +kernel
set_option maxRecDepth 100000 in
theorem d_law_826 : decode code 826 = .ok (.iload 4, 2) := by decide +kernel
set_option maxRecDepth 100000 in
theorem d_law_828 : decode code 828 = .ok (.iconst 1, 1) := by decide +kernel
set_option maxRecDepth 100000 in
theorem d_law_829 : decode code 829 = .ok (.iadd, 1) := by decide +kernel
set_option maxRecDepth 100000 in
theorem d_law_830 : decode code 830 = .ok (.iaload, 1) := by decide +kernel
set_option maxRecDepth 100000 in
theorem d_law_831 : decode code 831 = .ok (.aload_n 0, 1) := by decide +kernel
set_option maxRecDepth 100000 in
theorem d_law_832 : decode code 832 = .ok (.iload 4, 2) := by decide +kernel
set_option maxRecDepth 100000 in
theorem d_law_834 : decode code 834 = .ok (.iconst 2, 1) := by decide +kernel
set_option maxRecDepth 100000 in
theorem d_law_835 : decode code 835 = .ok (.iadd, 1) := by decide +kernel
set_option maxRecDepth 100000 in
theorem d_law_836 : decode code 836 = .ok (.iaload, 1) := by decide +kernel
set_option maxRecDepth 100000 in
theorem d_law_837 : decode code 837 = .ok (.aload_n 3, 1) := by decide +kernel
set_option maxRecDepth 100000 in
theorem d_law_838 : decode code 838 = .ok (.invokestatic 114, 3) := by decide +kernel
set_option maxRecDepth 100000 in
theorem d_law_841 : decode code 841 = .ok (.istore 5, 2) := by decide +kernel
set_option maxRecDepth 100000 in
theorem d_law_843 : decode code 843 = .ok (.aload_n 2, 1) := by decide +kernel
set_option maxRecDepth 100000 in
theorem d_law_844 : decode code 844 = .ok (.aload_n 0, 1) := by decide +kernel
set_option maxRecDepth 100000 in
theorem d_law_845 : decode code 845 = .ok (.iload 4, 2) := by decide +kernel
set_option maxRecDepth 100000 in
theorem d_law_847 : decode code 847 = .ok (.iconst 1, 1) := by decide +kernel
set_option maxRecDepth 100000 in
theorem d_law_848 : decode code 848 = .ok (.iadd, 1) := by decide +kernel
set_option maxRecDepth 100000 in
theorem d_law_849 : decode code 849 = .ok (.iaload, 1) := by decide +kernel
set_option maxRecDepth 100000 in
theorem d_law_850 : decode code 850 = .ok (.aload_n 0, 1) := by decide +kernel
set_option maxRecDepth 100000 in
theorem d_law_851 : decode code 851 = .ok (.iload 4, 2) := by decide +kernel
set_option maxRecDepth 100000 in
theorem d_law_853 : decode code 853 = .ok (.iconst 2, 1) := by decide +kernel
set_option maxRecDepth 100000 in
theorem d_law_854 : decode code 854 = .ok (.iadd, 1) := by decide +kernel
set_option maxRecDepth 100000 in
theorem d_law_855 : decode code 855 = .ok (.iaload, 1) := by decide +kernel
set_option maxRecDepth 100000 in
theorem d_law_856 : decode code 856 = .ok (.invokevirtual 116, 3) := by decide +kernel
set_option maxRecDepth 100000 in
theorem d_law_859 : decode code 859 = .ok (.istore 6, 2) := by decide +kernel
set_option maxRecDepth 100000 in
theorem d_law_861 : decode code 861 = .ok (.aload_n 2, 1) := by decide +kernel
set_option maxRecDepth 100000 in
theorem d_law_862 : decode code 862 = .ok (.invokevirtual 80, 3) := by decide +kernel
set_option maxRecDepth 100000 in
theorem d_law_865 : decode code 865 = .ok (.iload 5, 2) := by decide +kernel
set_option maxRecDepth 100000 in
theorem d_law_867 : decode code 867 = .ok (.if_icmp .eq 5, 3) := by decide +kernel
set_option maxRecDepth 100000 in
theorem d_law_872 : decode code 872 = .ok (.iload 5, 2) := by decide +kernel
set_option maxRecDepth 100000 in
theorem d_law_874 : decode code 874 = .ok (.ifCond .ne 15, 3) := by decide +kernel
set_option maxRecDepth 100000 in
theorem d_law_877 : decode code 877 = .ok (.aload_n 3, 1) := by decide +kernel
set_option maxRecDepth 100000 in
theorem d_law_878 : decode code 878 = .ok (.iconst 0, 1) := by decide +kernel
set_option maxRecDepth 100000 in
theorem d_law_879 : decode code 879 = .ok (.laload, 1) := by decide +kernel
set_option maxRecDepth 100000 in
theorem d_law_880 : decode code 880 = .ok (.iload 6, 2) := by decide +kernel
set_option maxRecDepth 100000 in
theorem d_law_882 : decode code 882 = .ok (.i2l, 1) := by decide +kernel
set_option maxRecDepth 100000 in
theorem d_law_883 : decode code 883 = .ok (.lcmp, 1) := by decide +kernel
set_option maxRecDepth 100000 in
theorem d_law_884 : decode code 884 = .ok (.ifCond .eq 5, 3) := by decide +kernel
set_option maxRecDepth 100000 in
theorem d_law_889 : decode code 889 = .ok (.goto 284, 3) := by decide +kernel
set_option maxRecDepth 100000 in
theorem d_law_892 : decode code 892 = .ok (.aload_n 1, 1) := by decide +kernel
set_option maxRecDepth 100000 in
theorem d_law_893 : decode code 893 = .ok (.invokevirtual 117, 3) := by decide +kernel
set_option maxRecDepth 100000 in
theorem d_law_896 : decode code 896 = .ok (.aload_n 2, 1) := by decide +kernel
set_option maxRecDepth 100000 in
theorem d_law_897 : decode code 897 = .ok (.invokevirtual 120, 3) := by decide +kernel
set_option maxRecDepth 100000 in
theorem d_law_900 : decode code 900 = .ok (.if_icmp .eq 273, 3) := by decide +kernel
set_option maxRecDepth 100000 in
theorem d_law_905 : decode code 905 = .ok (.aload_n 1, 1) := by decide +kernel
set_option maxRecDepth 100000 in
theorem d_law_906 : decode code 906 = .ok (.aload_n 0, 1) := by decide +kernel
set_option maxRecDepth 100000 in
theorem d_law_907 : decode code 907 = .ok (.iload 4, 2) := by decide +kernel
set_option maxRecDepth 100000 in
theorem d_law_909 : decode code 909 = .ok (.iconst 1, 1) := by decide +kernel
set_option maxRecDepth 100000 in
theorem d_law_910 : decode code 910 = .ok (.iadd, 1) := by decide +kernel
set_option maxRecDepth 100000 in
theorem d_law_911 : decode code 911 = .ok (.iaload, 1) := by decide +kernel
set_option maxRecDepth 100000 in
theorem d_law_912 : decode code 912 = .ok (.aload_n 0, 1) := by decide +kernel
set_option maxRecDepth 100000 in
theorem d_law_913 : decode code 913 = .ok (.iload 4, 2) := by decide +kernel
set_option maxRecDepth 100000 in
theorem d_law_915 : decode code 915 = .ok (.iconst 2, 1) := by decide +kernel
set_option maxRecDepth 100000 in
theorem d_law_916 : decode code 916 = .ok (.iadd, 1) := by decide +kernel
set_option maxRecDepth 100000 in
theorem d_law_917 : decode code 917 = .ok (.iaload, 1) := by decide +kernel
set_option maxRecDepth 100000 in
theorem d_law_918 : decode code 918 = .ok (.aload_n 0, 1) := by decide +kernel
set_option maxRecDepth 100000 in
theorem d_law_919 : decode code 919 = .ok (.iload 4, 2) := by decide +kernel
set_option maxRecDepth 100000 in
theorem d_law_921 : decode code 921 = .ok (.iconst 3, 1) := by decide +kernel
set_option maxRecDepth 100000 in
theorem d_law_922 : decode code 922 = .ok (.iadd, 1) := by decide +kernel
set_option maxRecDepth 100000 in
theorem d_law_923 : decode code 923 = .ok (.iaload, 1) := by decide +kernel
set_option maxRecDepth 100000 in
theorem d_law_924 : decode code 924 = .ok (.aload_n 0, 1) := by decide +kernel
set_option maxRecDepth 100000 in
theorem d_law_925 : decode code 925 = .ok (.iload 4, 2) := by decide +kernel
set_option maxRecDepth 100000 in
theorem d_law_927 : decode code 927 = .ok (.iconst 4, 1) := by decide +kernel
set_option maxRecDepth 100000 in
theorem d_law_928 : decode code 928 = .ok (.iadd, 1) := by decide +kernel
set_option maxRecDepth 100000 in
theorem d_law_929 : decode code 929 = .ok (.iaload, 1) := by decide +kernel
set_option maxRecDepth 100000 in
theorem d_law_930 : decode code 930 = .ok (.ifCond .eq 7, 3) := by decide +kernel
set_option maxRecDepth 100000 in
theorem d_law_933 : decode code 933 = .ok (.iconst 1, 1) := by decide +kernel
set_option maxRecDepth 100000 in
theorem d_law_934 : decode code 934 = .ok (.goto 4, 3) := by decide +kernel
set_option maxRecDepth 100000 in
theorem d_law_937 : decode code 937 = .ok (.iconst 0, 1) := by decide +kernel
set_option maxRecDepth 100000 in
theorem d_law_938 : decode code 938 = .ok (.aload_n 3, 1) := by decide +kernel
set_option maxRecDepth 100000 in
theorem d_law_939 : decode code 939 = .ok (.invokestatic 121, 3) := by decide +kernel
set_option maxRecDepth 100000 in
theorem d_law_942 : decode code 942 = .ok (.istore 5, 2) := by decide +kernel
set_option maxRecDepth 100000 in
theorem d_law_944 : decode code 944 = .ok (.aload_n 2, 1) := by decide +kernel
set_option maxRecDepth 100000 in
theorem d_law_945 : decode code 945 = .ok (.aload_n 0, 1) := by decide +kernel
set_option maxRecDepth 100000 in
theorem d_law_946 : decode code 946 = .ok (.iload 4, 2) := by decide +kernel
set_option maxRecDepth 100000 in
theorem d_law_948 : decode code 948 = .ok (.iconst 1, 1) := by decide +kernel
set_option maxRecDepth 100000 in
theorem d_law_949 : decode code 949 = .ok (.iadd, 1) := by decide +kernel
set_option maxRecDepth 100000 in
theorem d_law_950 : decode code 950 = .ok (.iaload, 1) := by decide +kernel
set_option maxRecDepth 100000 in
theorem d_law_951 : decode code 951 = .ok (.aload_n 0, 1) := by decide +kernel
set_option maxRecDepth 100000 in
theorem d_law_952 : decode code 952 = .ok (.iload 4, 2) := by decide +kernel
set_option maxRecDepth 100000 in
theorem d_law_954 : decode code 954 = .ok (.iconst 2, 1) := by decide +kernel
set_option maxRecDepth 100000 in
theorem d_law_955 : decode code 955 = .ok (.iadd, 1) := by decide +kernel
set_option maxRecDepth 100000 in
theorem d_law_956 : decode code 956 = .ok (.iaload, 1) := by decide +kernel
set_option maxRecDepth 100000 in
theorem d_law_957 : decode code 957 = .ok (.aload_n 0, 1) := by decide +kernel
set_option maxRecDepth 100000 in
theorem d_law_958 : decode code 958 = .ok (.iload 4, 2) := by decide +kernel
set_option maxRecDepth 100000 in
theorem d_law_960 : decode code 960 = .ok (.iconst 3, 1) := by decide +kernel
set_option maxRecDepth 100000 in
theorem d_law_961 : decode code 961 = .ok (.iadd, 1) := by decide +kernel
set_option maxRecDepth 100000 in
theorem d_law_962 : decode code 962 = .ok (.iaload, 1) := by decide +kernel
set_option maxRecDepth 100000 in
theorem d_law_963 : decode code 963 = .ok (.aload_n 0, 1) := by decide +kernel
set_option maxRecDepth 100000 in
theorem d_law_964 : decode code 964 = .ok (.iload 4, 2) := by decide +kernel
set_option maxRecDepth 100000 in
theorem d_law_966 : decode code 966 = .ok (.iconst 4, 1) := by decide +kernel
set_option maxRecDepth 100000 in
theorem d_law_967 : decode code 967 = .ok (.iadd, 1) := by decide +kernel
set_option maxRecDepth 100000 in
theorem d_law_968 : decode code 968 = .ok (.iaload, 1) := by decide +kernel
set_option maxRecDepth 100000 in
theorem d_law_969 : decode code 969 = .ok (.ifCond .eq 7, 3) := by decide +kernel
set_option maxRecDepth 100000 in
theorem d_law_972 : decode code 972 = .ok (.iconst 1, 1) := by decide +kernel
set_option maxRecDepth 100000 in
theorem d_law_973 : decode code 973 = .ok (.goto 4, 3) := by decide +kernel
set_option maxRecDepth 100000 in
theorem d_law_976 : decode code 976 = .ok (.iconst 0, 1) := by decide +kernel
set_option maxRecDepth 100000 in
theorem d_law_977 : decode code 977 = .ok (.invokevirtual 124, 3) := by decide +kernel
set_option maxRecDepth 100000 in
theorem d_law_980 : decode code 980 = .ok (.istore 6, 2) := by decide +kernel
set_option maxRecDepth 100000 in
theorem d_law_982 : decode code 982 = .ok (.aload_n 2, 1) := by decide +kernel
set_option maxRecDepth 100000 in
theorem d_law_983 : decode code 983 = .ok (.invokevirtual 80, 3) := by decide +kernel
set_option maxRecDepth 100000 in
theorem d_law_986 : decode code 986 = .ok (.iload 5, 2) := by decide +kernel
set_option maxRecDepth 100000 in
theorem d_law_988 : decode code 988 = .ok (.if_icmp .eq 5, 3) := by decide +kernel
set_option maxRecDepth 100000 in
theorem d_law_993 : decode code 993 = .ok (.iload 5, 2) := by decide +kernel
set_option maxRecDepth 100000 in
theorem d_law_995 : decode code 995 = .ok (.ifCond .ne 15, 3) := by decide +kernel
set_option maxRecDepth 100000 in
theorem d_law_998 : decode code 998 = .ok (.aload_n 3, 1) := by decide +kernel
set_option maxRecDepth 100000 in
theorem d_law_999 : decode code 999 = .ok (.iconst 0, 1) := by decide +kernel
set_option maxRecDepth 100000 in
theorem d_law_1000 : decode code 1000 = .ok (.laload, 1) := by decide +kernel
set_option maxRecDepth 100000 in
theorem d_law_1001 : decode code 1001 = .ok (.iload 6, 2) := by decide +kernel
set_option maxRecDepth 100000 in
theorem d_law_1003 : decode code 1003 = .ok (.i2l, 1) := by decide +kernel
set_option maxRecDepth 100000 in
theorem d_law_1004 : decode code 1004 = .ok (.lcmp, 1) := by decide +kernel
set_option maxRecDepth 100000 in
theorem d_law_1005 : decode code 1005 = .ok (.ifCond .eq 5, 3) := by decide +kernel
set_option maxRecDepth 100000 in
theorem d_law_1010 : decode code 1010 = .ok (.goto 163, 3) := by decide +kernel
set_option maxRecDepth 100000 in
theorem d_law_1013 : decode code 1013 = .ok (.aload_n 1, 1) := by decide +kernel
set_option maxRecDepth 100000 in
theorem d_law_1014 : decode code 1014 = .ok (.aload_n 0, 1) := by decide +kernel
set_option maxRecDepth 100000 in
theorem d_law_1015 : decode code 1015 = .ok (.iload 4, 2) := by decide +kernel
set_option maxRecDepth 100000 in
theorem d_law_1017 : decode code 1017 = .ok (.iconst 1, 1) := by decide +kernel
set_option maxRecDepth 100000 in
theorem d_law_1018 : decode code 1018 = .ok (.iadd, 1) := by decide +kernel
set_option maxRecDepth 100000 in
theorem d_law_1019 : decode code 1019 = .ok (.iaload, 1) := by decide +kernel
set_option maxRecDepth 100000 in
theorem d_law_1020 : decode code 1020 = .ok (.aload_n 3, 1) := by decide +kernel
set_option maxRecDepth 100000 in
theorem d_law_1021 : decode code 1021 = .ok (.invokestatic 125, 3) := by decide +kernel
set_option maxRecDepth 100000 in
theorem d_law_1024 : decode code 1024 = .ok (.istore 5, 2) := by decide +kernel
set_option maxRecDepth 100000 in
theorem d_law_1026 : decode code 1026 = .ok (.aload_n 2, 1) := by decide +kernel
set_option maxRecDepth 100000 in
theorem d_law_1027 : decode code 1027 = .ok (.aload_n 0, 1) := by decide +kernel
set_option maxRecDepth 100000 in
theorem d_law_1028 : decode code 1028 = .ok (.iload 4, 2) := by decide +kernel
set_option maxRecDepth 100000 in
theorem d_law_1030 : decode code 1030 = .ok (.iconst 1, 1) := by decide +kernel
set_option maxRecDepth 100000 in
theorem d_law_1031 : decode code 1031 = .ok (.iadd, 1) := by decide +kernel
set_option maxRecDepth 100000 in
theorem d_law_1032 : decode code 1032 = .ok (.iaload, 1) := by decide +kernel
set_option maxRecDepth 100000 in
theorem d_law_1033 : decode code 1033 = .ok (.invokevirtual 127, 3) := by decide +kernel
set_option maxRecDepth 100000 in
theorem d_law_1036 : decode code 1036 = .ok (.istore 6, 2) := by decide +kernel
set_option maxRecDepth 100000 in
theorem d_law_1038 : decode code 1038 = .ok (.aload_n 2, 1) := by decide +kernel
set_option maxRecDepth 100000 in
theorem d_law_1039 : decode code 1039 = .ok (.invokevirtual 80, 3) := by decide +kernel
set_option maxRecDepth 100000 in
theorem d_law_1042 : decode code 1042 = .ok (.iload 5, 2) := by decide +kernel
set_option maxRecDepth 100000 in
theorem d_law_1044 : decode code 1044 = .ok (.if_icmp .eq 5, 3) := by decide +kernel
set_option maxRecDepth 100000 in
theorem d_law_1049 : decode code 1049 = .ok (.iload 5, 2) := by decide +kernel
set_option maxRecDepth 100000 in
theorem d_law_1051 : decode code 1051 = .ok (.ifCond .ne 15, 3) := by decide +kernel
set_option maxRecDepth 100000 in
theorem d_law_1054 : decode code 1054 = .ok (.aload_n 3, 1) := by decide +kernel
set_option maxRecDepth 100000 in
theorem d_law_1055 : decode code 1055 = .ok (.iconst 0, 1) := by decide +kernel
set_option maxRecDepth 100000 in
theorem d_law_1056 : decode code 1056 = .ok (.laload, 1) := by decide +kernel
set_option maxRecDepth 100000 in
theorem d_law_1057 : decode code 1057 = .ok (.iload 6, 2) := by decide +kernel
set_option maxRecDepth 100000 in
theorem d_law_1059 : decode code 1059 = .ok (.i2l, 1) := by decide +kernel
set_option maxRecDepth 100000 in
theorem d_law_1060 : decode code 1060 = .ok (.lcmp, 1) := by decide +kernel
set_option maxRecDepth 100000 in
theorem d_law_1061 : decode code 1061 = .ok (.ifCond .eq 5, 3) := by decide +kernel
set_option maxRecDepth 100000 in
theorem d_law_1066 : decode code 1066 = .ok (.goto 107, 3) := by decide +kernel
set_option maxRecDepth 100000 in
theorem d_law_1069 : decode code 1069 = .ok (.aload_n 1, 1) := by decide +kernel
set_option maxRecDepth 100000 in
theorem d_law_1070 : decode code 1070 = .ok (.aload_n 0, 1) := by decide +kernel
set_option maxRecDepth 100000 in
theorem d_law_1071 : decode code 1071 = .ok (.iload 4, 2) := by decide +kernel
set_option maxRecDepth 100000 in
theorem d_law_1073 : decode code 1073 = .ok (.iconst 1, 1) := by decide +kernel
set_option maxRecDepth 100000 in
theorem d_law_1074 : decode code 1074 = .ok (.iadd, 1) := by decide +kernel
set_option maxRecDepth 100000 in
theorem d_law_1075 : decode code 1075 = .ok (.iaload, 1) := by decide +kernel
set_option maxRecDepth 100000 in
theorem d_law_1076 : decode code 1076 = .ok (.aload_n 0, 1) := by decide +kernel
set_option maxRecDepth 100000 in
theorem d_law_1077 : decode code 1077 = .ok (.iload 4, 2) := by decide +kernel
set_option maxRecDepth 100000 in
theorem d_law_1079 : decode code 1079 = .ok (.iconst 2, 1) := by decide +kernel
set_option maxRecDepth 100000 in
theorem d_law_1080 : decode code 1080 = .ok (.iadd, 1) := by decide +kernel
set_option maxRecDepth 100000 in
theorem d_law_1081 : decode code 1081 = .ok (.iaload, 1) := by decide +kernel
set_option maxRecDepth 100000 in
theorem d_law_1082 : decode code 1082 = .ok (.aload_n 3, 1) := by decide +kernel
set_option maxRecDepth 100000 in
theorem d_law_1083 : decode code 1083 = .ok (.invokestatic 128, 3) := by decide +kernel
set_option maxRecDepth 100000 in
theorem d_law_1086 : decode code 1086 = .ok (.istore 5, 2) := by decide +kernel
set_option maxRecDepth 100000 in
theorem d_law_1088 : decode code 1088 = .ok (.aload_n 2, 1) := by decide +kernel
set_option maxRecDepth 100000 in
theorem d_law_1089 : decode code 1089 = .ok (.aload_n 0, 1) := by decide +kernel
set_option maxRecDepth 100000 in
theorem d_law_1090 : decode code 1090 = .ok (.iload 4, 2) := by decide +kernel
set_option maxRecDepth 100000 in
theorem d_law_1092 : decode code 1092 = .ok (.iconst 1, 1) := by decide +kernel
set_option maxRecDepth 100000 in
theorem d_law_1093 : decode code 1093 = .ok (.iadd, 1) := by decide +kernel
set_option maxRecDepth 100000 in
theorem d_law_1094 : decode code 1094 = .ok (.iaload, 1) := by decide +kernel
set_option maxRecDepth 100000 in
theorem d_law_1095 : decode code 1095 = .ok (.aload_n 0, 1) := by decide +kernel
set_option maxRecDepth 100000 in
theorem d_law_1096 : decode code 1096 = .ok (.iload 4, 2) := by decide +kernel
set_option maxRecDepth 100000 in
theorem d_law_1098 : decode code 1098 = .ok (.iconst 2, 1) := by decide +kernel
set_option maxRecDepth 100000 in
theorem d_law_1099 : decode code 1099 = .ok (.iadd, 1) := by decide +kernel
set_option maxRecDepth 100000 in
theorem d_law_1100 : decode code 1100 = .ok (.iaload, 1) := by decide +kernel
set_option maxRecDepth 100000 in
theorem d_law_1101 : decode code 1101 = .ok (.invokevirtual 130, 3) := by decide +kernel
set_option maxRecDepth 100000 in
theorem d_law_1104 : decode code 1104 = .ok (.istore 6, 2) := by decide +kernel
set_option maxRecDepth 100000 in
theorem d_law_1106 : decode code 1106 = .ok (.aload_n 2, 1) := by decide +kernel
set_option maxRecDepth 100000 in
theorem d_law_1107 : decode code 1107 = .ok (.invokevirtual 80, 3) := by decide +kernel
set_option maxRecDepth 100000 in
theorem d_law_1110 : decode code 1110 = .ok (.iload 5, 2) := by decide +kernel
set_option maxRecDepth 100000 in
theorem d_law_1112 : decode code 1112 = .ok (.if_icmp .eq 5, 3) := by decide +kernel
set_option maxRecDepth 100000 in
theorem d_law_1117 : decode code 1117 = .ok (.iload 5, 2) := by decide +kernel
set_option maxRecDepth 100000 in
theorem d_law_1119 : decode code 1119 = .ok (.ifCond .ne 15, 3) := by decide +kernel
set_option maxRecDepth 100000 in
theorem d_law_1122 : decode code 1122 = .ok (.aload_n 3, 1) := by decide +kernel
set_option maxRecDepth 100000 in
theorem d_law_1123 : decode code 1123 = .ok (.iconst 0, 1) := by decide +kernel
set_option maxRecDepth 100000 in
theorem d_law_1124 : decode code 1124 = .ok (.laload, 1) := by decide +kernel
set_option maxRecDepth 100000 in
theorem d_law_1125 : decode code 1125 = .ok (.iload 6, 2) := by decide +kernel
set_option maxRecDepth 100000 in
theorem d_law_1127 : decode code 1127 = .ok (.i2l, 1) := by decide +kernel
set_option maxRecDepth 100000 in
theorem d_law_1128 : decode code 1128 = .ok (.lcmp, 1) := by decide +kernel
set_option maxRecDepth 100000 in
theorem d_law_1129 : decode code 1129 = .ok (.ifCond .eq 5, 3) := by decide +kernel
set_option maxRecDepth 100000 in
theorem d_law_1134 : decode code 1134 = .ok (.goto 39, 3) := by decide +kernel
set_option maxRecDepth 100000 in
theorem d_law_1137 : decode code 1137 = .ok (.aload_n 1, 1) := by decide +kernel
set_option maxRecDepth 100000 in
theorem d_law_1138 : decode code 1138 = .ok (.aload_n 0, 1) := by decide +kernel
set_option maxRecDepth 100000 in
theorem d_law_1139 : decode code 1139 = .ok (.iload 4, 2) := by decide +kernel
set_option maxRecDepth 100000 in
theorem d_law_1141 : decode code 1141 = .ok (.iconst 1, 1) := by decide +kernel
set_option maxRecDepth 100000 in
theorem d_law_1142 : decode code 1142 = .ok (.iadd, 1) := by decide +kernel
set_option maxRecDepth 100000 in
theorem d_law_1143 : decode code 1143 = .ok (.iaload, 1) := by decide +kernel
set_option maxRecDepth 100000 in
theorem d_law_1144 : decode code 1144 = .ok (.invokevirtual 131, 3) := by decide +kernel
set_option maxRecDepth 100000 in
theorem d_law_1147 : decode code 1147 = .ok (.aload_n 2, 1) := by decide +kernel
set_option maxRecDepth 100000 in
theorem d_law_1148 : decode code 1148 = .ok (.aload_n 0, 1) := by decide +kernel
set_option maxRecDepth 100000 in
theorem d_law_1149 : decode code 1149 = .ok (.iload 4, 2) := by decide +kernel
set_option maxRecDepth 100000 in
theorem d_law_1151 : decode code 1151 = .ok (.iconst 1, 1) := by decide +kernel
set_option maxRecDepth 100000 in
theorem d_law_1152 : decode code 1152 = .ok (.iadd, 1) := by decide +kernel
set_option maxRecDepth 100000 in
theorem d_law_1153 : decode code 1153 = .ok (.iaload, 1) := by decide +kernel
set_option maxRecDepth 100000 in
theorem d_law_1154 : decode code 1154 = .ok (.invokevirtual 134, 3) := by decide +kernel
set_option maxRecDepth 100000 in
theorem d_law_1157 : decode code 1157 = .ok (.if_icmp .eq 16, 3) := by decide +kernel
set_option maxRecDepth 100000 in
theorem d_law_1162 : decode code 1162 = .ok (.aload_n 1, 1) := by decide +kernel
set_option maxRecDepth 100000 in
theorem d_law_1163 : decode code 1163 = .ok (.invokevirtual 135, 3) := by decide +kernel
set_option maxRecDepth 100000 in
theorem d_law_1166 : decode code 1166 = .ok (.aload_n 2, 1) := by decide +kernel
set_option maxRecDepth 100000 in
theorem d_law_1167 : decode code 1167 = .ok (.invokevirtual 138, 3) := by decide +kernel
set_option maxRecDepth 100000 in
theorem d_law_1170 : decode code 1170 = .ok (.goto 3, 3) := by decide +kernel
set_option maxRecDepth 100000 in
theorem d_law_1173 : decode code 1173 = .ok (.iinc 4 5, 3) := by decide +kernel
set_option maxRecDepth 100000 in
theorem d_law_1176 : decode code 1176 = .ok (.goto (-1143), 3) := by decide +kernel
set_option maxRecDepth 100000 in
theorem d_law_1179 : decode code 1179 = .ok (.iconst 1, 1) := by decide +kernel
set_option maxRecDepth 100000 in
theorem d_law_1180 : decode code 1180 = .ok (.ireturn, 1) := by decide +kernel
set_option maxHeartbeats 4000000 in
set_option maxRecDepth 100000 in
theorem law_0 {F : Lx} {σ : Mem} {cells slots : Nat} {i : Int32} (C : LCtx F) (hc : cells + 1 ≤ 601024) (hs : slots + 6 ≤ 7293000) (h1 : vp_in (i + 1) (lL F)) (h2 : vp_in (i + 2) (lL F)) (h3 : vp_in (i + 3) (lL F)) (h4 : vp_in (i + 4) (lL F)) {t : (Int32 ⊕ Nat) × Mem} (ht : f_LF_picture 0 (sA F i 1) (sA F i 2) (sA F i 3) (sA F i 4) σ = some t) {k : Int32} {σ1 : Mem} (hk : HRes [(3, 1)] (xrIM t) k σ1) {q1 : Int32 × Mem} (hq1 : f_RM_picture 56 (sA F i 1) (sA F i 2) (sA F i 3) (sA F i 4) σ1 = some q1) (ht9 : q1.2 56 1 = k) (ho : k = 0 → q1.2 82 0 = q1.1) (K : LW F q1.2 (cells + 1) (slots + 6) 1173 [(4, .int i), (3, .ref (lad F 82)), (2, .ref (lad F 56)), (1, .ref (lad F 0)), (0, .ref (lb F))] []) : LW F σ cells slots 132 [(4, .int i), (3, .ref (lad F 82)), (2, .ref (lad F 56)), (1, .ref (lad F 0)), (0, .ref (lb F))] [] := by
  refine l_aload_n C d_law_132 3 rfl ?_
  refine l_aload_n C d_law_133 4 rfl ?_
  refine l_iload C d_law_134 0 rfl ?_
  refine l_iconst (v := 1) C d_law_136 (by decide) ?_
  refine l_iadd C d_law_137 ?_
  refine l_sld C h1 d_law_138 ?_
  refine l_aload_n C d_law_139 4 rfl ?_
  refine l_iload C d_law_140 0 rfl ?_
  refine l_iconst (v := 2) C d_law_142 (by decide) ?_
  refine l_iadd C d_law_143 ?_
  refine l_sld C h2 d_law_144 ?_
  refine l_aload_n C d_law_145 4 rfl ?_
  refine l_iload C d_law_146 0 rfl ?_
  refine l_iconst (v := 3) C d_law_148 (by decide) ?_
  refine l_iadd C d_law_149 ?_
  refine l_sld C h3 d_law_150 ?_
  refine l_aload_n C d_law_151 4 rfl ?_
  refine l_iload C d_law_152 0 rfl ?_
  refine l_iconst (v := 4) C d_law_154 (by decide) ?_
  refine l_iadd C d_law_155 ?_
  refine l_sld C h4 d_law_156 ?_
  refine l_aload_n C d_law_157 1 rfl ?_
  refine l_callH C mh_76 [.ref (lad F 0), .int (sA F i 1), .int (sA F i 2), .int (sA F i 3), .int (sA F i 4), .ref (lad F 82)] (h_picture (sA F i 1) (sA F i 2) (sA F i 3) (sA F i 4) σ ht hk) rfl rfl (by decide) hc hs d_law_158 ?_
  refine l_istore C d_law_161 (by decide) rfl ?_
  refine l_aload_n C d_law_163 3 rfl ?_
  refine l_aload_n C d_law_164 5 rfl ?_
  refine l_iload C d_law_165 1 rfl ?_
  refine l_iconst (v := 1) C d_law_167 (by decide) ?_
  refine l_iadd C d_law_168 ?_
  refine l_sld C h1 d_law_169 ?_
  refine l_aload_n C d_law_170 5 rfl ?_
  refine l_iload C d_law_171 1 rfl ?_
  refine l_iconst (v := 2) C d_law_173 (by decide) ?_
  refine l_iadd C d_law_174 ?_
  refine l_sld C h2 d_law_175 ?_
  refine l_aload_n C d_law_176 5 rfl ?_
  refine l_iload C d_law_177 1 rfl ?_
  refine l_iconst (v := 3) C d_law_179 (by decide) ?_
  refine l_iadd C d_law_180 ?_
  refine l_sld C h3 d_law_181 ?_
  refine l_aload_n C d_law_182 5 rfl ?_
  refine l_iload C d_law_183 1 rfl ?_
  refine l_iconst (v := 4) C d_law_185 (by decide) ?_
  refine l_iadd C d_law_186 ?_
  refine l_sld C h4 d_law_187 ?_
  refine l_callM C mv_LAW_79 i5611 [.int (sA F i 1), .int (sA F i 2), .int (sA F i 3), .int (sA F i 4)] [] (c_RM_picture i5611 (sA F i 1) (sA F i 2) (sA F i 3) (sA F i 4) σ1 hq1) rfl rfl (by decide) hc hs (Nat.le_of_ble_eq_true rfl) d_law_188 ?_
  refine l_istore C d_law_191 (by decide) rfl ?_
  refine l_aload_n C d_law_193 4 rfl ?_
  refine l_callM C mv_LAW_80 i5611 [] [] (c_RM_thrown i5611 q1.2) rfl rfl (by decide) hc hs (Nat.le_of_ble_eq_true rfl) d_law_194 ?_
  refine l_iload C d_law_197 1 rfl ?_
  refine l_icmp_eq (tgt := 204) C d_law_199 (by decide) ht9 ?_
  refine l_iload C d_law_204 1 rfl ?_
  refine l_if_ne (tgt := 221) C d_law_206 (by decide) (fun _ => ?_) (fun hz9 => ?_)
  · refine l_goto (tgt := 1173) C d_law_221 (by decide) ?_
    refine l_sub [2, 3, 4, 5, 6] rfl ?_
    exact K
  · refine l_aload_n C d_law_209 3 rfl ?_
    refine l_iconst (v := 0) C d_law_210 (by decide) ?_
    refine l_out C d_law_211 ?_
    refine l_iload C d_law_212 0 rfl ?_
    refine l_i2l C d_law_214 ?_
    refine l_lcmp C d_law_215 ?_
    refine l_if_eq (tgt := 221) C d_law_216 (by decide) (fun _ => ?_) (fun c => absurd (lc0 (ho hz9)) c)
    refine l_goto (tgt := 1173) C d_law_221 (by decide) ?_
    refine l_sub [2, 3, 4, 5, 6] rfl ?_
    exact K
set_option maxHeartbeats 4000000 in
set_option maxRecDepth 100000 in
theorem law_1 {F : Lx} {σ : Mem} {cells slots : Nat} {i : Int32} (C : LCtx F) (hc : cells + 1 ≤ 601024) (hs : slots + 6 ≤ 7293000) (h1 : vp_in (i + 1) (lL F)) (h2 : vp_in (i + 2) (lL F)) (h3 : vp_in (i + 3) (lL F)) (h4 : vp_in (i + 4) (lL F)) {k : Int32} {σ1 : Mem} (hk : HRes [(1, 1), (2, 2), (3, 3)] (xrIM (f_LF_put 0 (sA F i 1) (sA F i 2) (sA F i 3) (sA F i 4) σ)) k σ1) {q1 : Int32 × Mem} (hq1 : f_RM_put 56 (sA F i 1) (sA F i 2) (sA F i 3) (sA F i 4) σ1 = some q1) (ht9 : q1.2 56 1 = k) (ho : k = 0 → q1.2 82 0 = q1.1) (K : LW F q1.2 (cells + 1) (slots + 6) 1173 [(4, .int i), (3, .ref (lad F 82)), (2, .ref (lad F 56)), (1, .ref (lad F 0)), (0, .ref (lb F))] []) : LW F σ cells slots 224 [(4, .int i), (3, .ref (lad F 82)), (2, .ref (lad F 56)), (1, .ref (lad F 0)), (0, .ref (lb F))] [] := by
  refine l_aload_n C d_law_224 3 rfl ?_
  refine l_aload_n C d_law_225 4 rfl ?_
  refine l_iload C d_law_226 0 rfl ?_
  refine l_iconst (v := 1) C d_law_228 (by decide) ?_
  refine l_iadd C d_law_229 ?_
  refine l_sld C h1 d_law_230 ?_
  refine l_aload_n C d_law_231 4 rfl ?_
  refine l_iload C d_law_232 0 rfl ?_
  refine l_iconst (v := 2) C d_law_234 (by decide) ?_
  refine l_iadd C d_law_235 ?_
  refine l_sld C h2 d_law_236 ?_
  refine l_aload_n C d_law_237 4 rfl ?_
  refine l_iload C d_law_238 0 rfl ?_
  refine l_iconst (v := 3) C d_law_240 (by decide) ?_
  refine l_iadd C d_law_241 ?_
  refine l_sld C h3 d_law_242 ?_
  refine l_aload_n C d_law_243 4 rfl ?_
  refine l_iload C d_law_244 0 rfl ?_
  refine l_iconst (v := 4) C d_law_246 (by decide) ?_
  refine l_iadd C d_law_247 ?_
  refine l_sld C h4 d_law_248 ?_
  refine l_aload_n C d_law_249 1 rfl ?_
  refine l_callH C mh_84 [.ref (lad F 0), .int (sA F i 1), .int (sA F i 2), .int (sA F i 3), .int (sA F i 4), .ref (lad F 82)] (h_put (sA F i 1) (sA F i 2) (sA F i 3) (sA F i 4) σ hk) rfl rfl (by decide) hc hs d_law_250 ?_
  refine l_istore C d_law_253 (by decide) rfl ?_
  refine l_aload_n C d_law_255 3 rfl ?_
  refine l_aload_n C d_law_256 5 rfl ?_
  refine l_iload C d_law_257 1 rfl ?_
  refine l_iconst (v := 1) C d_law_259 (by decide) ?_
  refine l_iadd C d_law_260 ?_
  refine l_sld C h1 d_law_261 ?_
  refine l_aload_n C d_law_262 5 rfl ?_
  refine l_iload C d_law_263 1 rfl ?_
  refine l_iconst (v := 2) C d_law_265 (by decide) ?_
  refine l_iadd C d_law_266 ?_
  refine l_sld C h2 d_law_267 ?_
  refine l_aload_n C d_law_268 5 rfl ?_
  refine l_iload C d_law_269 1 rfl ?_
  refine l_iconst (v := 3) C d_law_271 (by decide) ?_
  refine l_iadd C d_law_272 ?_
  refine l_sld C h3 d_law_273 ?_
  refine l_aload_n C d_law_274 5 rfl ?_
  refine l_iload C d_law_275 1 rfl ?_
  refine l_iconst (v := 4) C d_law_277 (by decide) ?_
  refine l_iadd C d_law_278 ?_
  refine l_sld C h4 d_law_279 ?_
  refine l_callM C mv_LAW_86 i5611 [.int (sA F i 1), .int (sA F i 2), .int (sA F i 3), .int (sA F i 4)] [] (c_RM_put i5611 (sA F i 1) (sA F i 2) (sA F i 3) (sA F i 4) σ1 hq1) rfl rfl (by decide) hc hs (Nat.le_of_ble_eq_true rfl) d_law_280 ?_
  refine l_istore C d_law_283 (by decide) rfl ?_
  refine l_aload_n C d_law_285 4 rfl ?_
  refine l_callM C mv_LAW_80 i5611 [] [] (c_RM_thrown i5611 q1.2) rfl rfl (by decide) hc hs (Nat.le_of_ble_eq_true rfl) d_law_286 ?_
  refine l_iload C d_law_289 1 rfl ?_
  refine l_icmp_eq (tgt := 296) C d_law_291 (by decide) ht9 ?_
  refine l_iload C d_law_296 1 rfl ?_
  refine l_if_ne (tgt := 313) C d_law_298 (by decide) (fun _ => ?_) (fun hz9 => ?_)
  · refine l_goto (tgt := 1173) C d_law_313 (by decide) ?_
    refine l_sub [2, 3, 4, 5, 6] rfl ?_
    exact K
  · refine l_aload_n C d_law_301 3 rfl ?_
    refine l_iconst (v := 0) C d_law_302 (by decide) ?_
    refine l_out C d_law_303 ?_
    refine l_iload C d_law_304 0 rfl ?_
    refine l_i2l C d_law_306 ?_
    refine l_lcmp C d_law_307 ?_
    refine l_if_eq (tgt := 313) C d_law_308 (by decide) (fun _ => ?_) (fun c => absurd (lc0 (ho hz9)) c)
    refine l_goto (tgt := 1173) C d_law_313 (by decide) ?_
    refine l_sub [2, 3, 4, 5, 6] rfl ?_
    exact K
set_option maxHeartbeats 4000000 in
set_option maxRecDepth 100000 in
theorem law_2 {F : Lx} {σ : Mem} {cells slots : Nat} {i : Int32} (C : LCtx F) (hc : cells + 1 ≤ 601024) (hs : slots + 6 ≤ 7293000) (h1 : vp_in (i + 1) (lL F)) (h2 : vp_in (i + 2) (lL F)) {k : Int32} {σ1 : Mem} (hk : HRes [(1, 1), (3, 2)] (xrIM (f_LF_preset 0 (sA F i 1) (sA F i 2) σ)) k σ1) (ht9 : (f_RM_preset 56 (sA F i 1) (sA F i 2) σ1).2 56 1 = k) (ho : k = 0 → (f_RM_preset 56 (sA F i 1) (sA F i 2) σ1).2 82 0 = (f_RM_preset 56 (sA F i 1) (sA F i 2) σ1).1) (K : LW F ((f_RM_preset 56 (sA F i 1) (sA F i 2) σ1).2) (cells + 1) (slots + 6) 1173 [(4, .int i), (3, .ref (lad F 82)), (2, .ref (lad F 56)), (1, .ref (lad F 0)), (0, .ref (lb F))] []) : LW F σ cells slots 316 [(4, .int i), (3, .ref (lad F 82)), (2, .ref (lad F 56)), (1, .ref (lad F 0)), (0, .ref (lb F))] [] := by
  refine l_aload_n C d_law_316 3 rfl ?_
  refine l_aload_n C d_law_317 4 rfl ?_
  refine l_iload C d_law_318 0 rfl ?_
  refine l_iconst (v := 1) C d_law_320 (by decide) ?_
  refine l_iadd C d_law_321 ?_
  refine l_sld C h1 d_law_322 ?_
  refine l_aload_n C d_law_323 4 rfl ?_
  refine l_iload C d_law_324 0 rfl ?_
  refine l_iconst (v := 2) C d_law_326 (by decide) ?_
  refine l_iadd C d_law_327 ?_
  refine l_sld C h2 d_law_328 ?_
  refine l_aload_n C d_law_329 1 rfl ?_
  refine l_callH C mh_87 [.ref (lad F 0), .int (sA F i 1), .int (sA F i 2), .ref (lad F 82)] (h_preset (sA F i 1) (sA F i 2) σ hk) rfl rfl (by decide) hc hs d_law_330 ?_
  refine l_istore C d_law_333 (by decide) rfl ?_
  refine l_aload_n C d_law_335 3 rfl ?_
  refine l_aload_n C d_law_336 5 rfl ?_
  refine l_iload C d_law_337 1 rfl ?_
  refine l_iconst (v := 1) C d_law_339 (by decide) ?_
  refine l_iadd C d_law_340 ?_
  refine l_sld C h1 d_law_341 ?_
  refine l_aload_n C d_law_342 5 rfl ?_
  refine l_iload C d_law_343 1 rfl ?_
  refine l_iconst (v := 2) C d_law_345 (by decide) ?_
  refine l_iadd C d_law_346 ?_
  refine l_sld C h2 d_law_347 ?_
  refine l_callM C mv_LAW_90 i5611 [.int (sA F i 1), .int (sA F i 2)] [] (c_RM_preset i5611 (sA F i 1) (sA F i 2) σ1) rfl rfl (by decide) hc hs (Nat.le_of_ble_eq_true rfl) d_law_348 ?_
  refine l_istore C d_law_351 (by decide) rfl ?_
  refine l_aload_n C d_law_353 4 rfl ?_
  refine l_callM C mv_LAW_80 i5611 [] [] (c_RM_thrown i5611 ((f_RM_preset 56 (sA F i 1) (sA F i 2) σ1).2)) rfl rfl (by decide) hc hs (Nat.le_of_ble_eq_true rfl) d_law_354 ?_
  refine l_iload C d_law_357 1 rfl ?_
  refine l_icmp_eq (tgt := 364) C d_law_359 (by decide) ht9 ?_
  refine l_iload C d_law_364 1 rfl ?_
  refine l_if_ne (tgt := 381) C d_law_366 (by decide) (fun _ => ?_) (fun hz9 => ?_)
  · refine l_goto (tgt := 1173) C d_law_381 (by decide) ?_
    refine l_sub [2, 3, 4, 5, 6] rfl ?_
    exact K
  · refine l_aload_n C d_law_369 3 rfl ?_
    refine l_iconst (v := 0) C d_law_370 (by decide) ?_
    refine l_out C d_law_371 ?_
    refine l_iload C d_law_372 0 rfl ?_
    refine l_i2l C d_law_374 ?_
    refine l_lcmp C d_law_375 ?_
    refine l_if_eq (tgt := 381) C d_law_376 (by decide) (fun _ => ?_) (fun c => absurd (lc0 (ho hz9)) c)
    refine l_goto (tgt := 1173) C d_law_381 (by decide) ?_
    refine l_sub [2, 3, 4, 5, 6] rfl ?_
    exact K
set_option maxHeartbeats 4000000 in
set_option maxRecDepth 100000 in
theorem law_3 {F : Lx} {σ : Mem} {cells slots : Nat} {i : Int32} (C : LCtx F) (hc : cells + 1 ≤ 601024) (hs : slots + 6 ≤ 7293000) (h1 : vp_in (i + 1) (lL F)) (h2 : vp_in (i + 2) (lL F)) (h3 : vp_in (i + 3) (lL F)) {t : (Int32 ⊕ Nat) × Mem} (ht : f_LF_table 0 (sA F i 1) (sA F i 2) (sA F i 3) σ = some t) {k : Int32} {σ1 : Mem} (hk : HRes [(1, 1), (2, 2), (3, 3)] (xrIM t) k σ1) {q1 : Int32 × Mem} (hq1 : f_RM_table 56 (sA F i 1) (sA F i 2) (sA F i 3) σ1 = some q1) (ht9 : q1.2 56 1 = k) (ho : k = 0 → q1.2 82 0 = q1.1) (K : LW F q1.2 (cells + 1) (slots + 6) 1173 [(4, .int i), (3, .ref (lad F 82)), (2, .ref (lad F 56)), (1, .ref (lad F 0)), (0, .ref (lb F))] []) : LW F σ cells slots 384 [(4, .int i), (3, .ref (lad F 82)), (2, .ref (lad F 56)), (1, .ref (lad F 0)), (0, .ref (lb F))] [] := by
  refine l_aload_n C d_law_384 3 rfl ?_
  refine l_aload_n C d_law_385 4 rfl ?_
  refine l_iload C d_law_386 0 rfl ?_
  refine l_iconst (v := 1) C d_law_388 (by decide) ?_
  refine l_iadd C d_law_389 ?_
  refine l_sld C h1 d_law_390 ?_
  refine l_aload_n C d_law_391 4 rfl ?_
  refine l_iload C d_law_392 0 rfl ?_
  refine l_iconst (v := 2) C d_law_394 (by decide) ?_
  refine l_iadd C d_law_395 ?_
  refine l_sld C h2 d_law_396 ?_
  refine l_aload_n C d_law_397 4 rfl ?_
  refine l_iload C d_law_398 0 rfl ?_
  refine l_iconst (v := 3) C d_law_400 (by decide) ?_
  refine l_iadd C d_law_401 ?_
  refine l_sld C h3 d_law_402 ?_
  refine l_aload_n C d_law_403 1 rfl ?_
  refine l_callH C mh_91 [.ref (lad F 0), .int (sA F i 1), .int (sA F i 2), .int (sA F i 3), .ref (lad F 82)] (h_table (sA F i 1) (sA F i 2) (sA F i 3) σ ht hk) rfl rfl (by decide) hc hs d_law_404 ?_
  refine l_istore C d_law_407 (by decide) rfl ?_
  refine l_aload_n C d_law_409 3 rfl ?_
  refine l_aload_n C d_law_410 5 rfl ?_
  refine l_iload C d_law_411 1 rfl ?_
  refine l_iconst (v := 1) C d_law_413 (by decide) ?_
  refine l_iadd C d_law_414 ?_
  refine l_sld C h1 d_law_415 ?_
  refine l_aload_n C d_law_416 5 rfl ?_
  refine l_iload C d_law_417 1 rfl ?_
  refine l_iconst (v := 2) C d_law_419 (by decide) ?_
  refine l_iadd C d_law_420 ?_
  refine l_sld C h2 d_law_421 ?_
  refine l_aload_n C d_law_422 5 rfl ?_
  refine l_iload C d_law_423 1 rfl ?_
  refine l_iconst (v := 3) C d_law_425 (by decide) ?_
  refine l_iadd C d_law_426 ?_
  refine l_sld C h3 d_law_427 ?_
  refine l_callM C mv_LAW_94 i5611 [.int (sA F i 1), .int (sA F i 2), .int (sA F i 3)] [] (c_RM_table i5611 (sA F i 1) (sA F i 2) (sA F i 3) σ1 hq1) rfl rfl (by decide) hc hs (Nat.le_of_ble_eq_true rfl) d_law_428 ?_
  refine l_istore C d_law_431 (by decide) rfl ?_
  refine l_aload_n C d_law_433 4 rfl ?_
  refine l_callM C mv_LAW_80 i5611 [] [] (c_RM_thrown i5611 q1.2) rfl rfl (by decide) hc hs (Nat.le_of_ble_eq_true rfl) d_law_434 ?_
  refine l_iload C d_law_437 1 rfl ?_
  refine l_icmp_eq (tgt := 444) C d_law_439 (by decide) ht9 ?_
  refine l_iload C d_law_444 1 rfl ?_
  refine l_if_ne (tgt := 461) C d_law_446 (by decide) (fun _ => ?_) (fun hz9 => ?_)
  · refine l_goto (tgt := 1173) C d_law_461 (by decide) ?_
    refine l_sub [2, 3, 4, 5, 6] rfl ?_
    exact K
  · refine l_aload_n C d_law_449 3 rfl ?_
    refine l_iconst (v := 0) C d_law_450 (by decide) ?_
    refine l_out C d_law_451 ?_
    refine l_iload C d_law_452 0 rfl ?_
    refine l_i2l C d_law_454 ?_
    refine l_lcmp C d_law_455 ?_
    refine l_if_eq (tgt := 461) C d_law_456 (by decide) (fun _ => ?_) (fun c => absurd (lc0 (ho hz9)) c)
    refine l_goto (tgt := 1173) C d_law_461 (by decide) ?_
    refine l_sub [2, 3, 4, 5, 6] rfl ?_
    exact K
set_option maxHeartbeats 4000000 in
set_option maxRecDepth 100000 in
theorem law_4 {F : Lx} {σ : Mem} {cells slots : Nat} {i : Int32} (C : LCtx F) (hc : cells + 1 ≤ 601024) (hs : slots + 6 ≤ 7293000) (h1 : vp_in (i + 1) (lL F)) {k : Int32} {σ1 : Mem} (hk : HRes [(1, 1), (3, 2), (4, 3)] (xrIM (f_LF_note 0 (sA F i 1) σ)) k σ1) {q1 : Int32 × Mem} (hq1 : f_RM_note 56 (sA F i 1) σ1 = some q1) (ht9 : q1.2 56 1 = k) (ho : k = 0 → q1.2 82 0 = q1.1) (K : LW F q1.2 (cells + 1) (slots + 6) 1173 [(4, .int i), (3, .ref (lad F 82)), (2, .ref (lad F 56)), (1, .ref (lad F 0)), (0, .ref (lb F))] []) : LW F σ cells slots 464 [(4, .int i), (3, .ref (lad F 82)), (2, .ref (lad F 56)), (1, .ref (lad F 0)), (0, .ref (lb F))] [] := by
  refine l_aload_n C d_law_464 3 rfl ?_
  refine l_aload_n C d_law_465 4 rfl ?_
  refine l_iload C d_law_466 0 rfl ?_
  refine l_iconst (v := 1) C d_law_468 (by decide) ?_
  refine l_iadd C d_law_469 ?_
  refine l_sld C h1 d_law_470 ?_
  refine l_aload_n C d_law_471 1 rfl ?_
  refine l_callH C mh_95 [.ref (lad F 0), .int (sA F i 1), .ref (lad F 82)] (h_note (sA F i 1) σ hk) rfl rfl (by decide) hc hs d_law_472 ?_
  refine l_istore C d_law_475 (by decide) rfl ?_
  refine l_aload_n C d_law_477 3 rfl ?_
  refine l_aload_n C d_law_478 5 rfl ?_
  refine l_iload C d_law_479 1 rfl ?_
  refine l_iconst (v := 1) C d_law_481 (by decide) ?_
  refine l_iadd C d_law_482 ?_
  refine l_sld C h1 d_law_483 ?_
  refine l_callM C mv_LAW_98 i5611 [.int (sA F i 1)] [] (c_RM_note i5611 (sA F i 1) σ1 hq1) rfl rfl (by decide) hc hs (Nat.le_of_ble_eq_true rfl) d_law_484 ?_
  refine l_istore C d_law_487 (by decide) rfl ?_
  refine l_aload_n C d_law_489 4 rfl ?_
  refine l_callM C mv_LAW_80 i5611 [] [] (c_RM_thrown i5611 q1.2) rfl rfl (by decide) hc hs (Nat.le_of_ble_eq_true rfl) d_law_490 ?_
  refine l_iload C d_law_493 1 rfl ?_
  refine l_icmp_eq (tgt := 500) C d_law_495 (by decide) ht9 ?_
  refine l_iload C d_law_500 1 rfl ?_
  refine l_if_ne (tgt := 517) C d_law_502 (by decide) (fun _ => ?_) (fun hz9 => ?_)
  · refine l_goto (tgt := 1173) C d_law_517 (by decide) ?_
    refine l_sub [2, 3, 4, 5, 6] rfl ?_
    exact K
  · refine l_aload_n C d_law_505 3 rfl ?_
    refine l_iconst (v := 0) C d_law_506 (by decide) ?_
    refine l_out C d_law_507 ?_
    refine l_iload C d_law_508 0 rfl ?_
    refine l_i2l C d_law_510 ?_
    refine l_lcmp C d_law_511 ?_
    refine l_if_eq (tgt := 517) C d_law_512 (by decide) (fun _ => ?_) (fun c => absurd (lc0 (ho hz9)) c)
    refine l_goto (tgt := 1173) C d_law_517 (by decide) ?_
    refine l_sub [2, 3, 4, 5, 6] rfl ?_
    exact K
set_option maxHeartbeats 4000000 in
set_option maxRecDepth 100000 in
theorem law_5 {F : Lx} {σ : Mem} {cells slots : Nat} {i : Int32} (C : LCtx F) (hc : cells + 1 ≤ 601024) (hs : slots + 6 ≤ 7293000) (h1 : vp_in (i + 1) (lL F)) (h2 : vp_in (i + 2) (lL F)) {k : Int32} {σ1 : Mem} (hk : HRes [(1, 1), (2, 2), (3, 3), (4, 4)] (xrIM (f_LF_byteOf 0 (sA F i 1) (sA F i 2) σ)) k σ1) {q1 : Int32 × Mem} (hq1 : f_RM_byteOf 56 (sA F i 1) (sA F i 2) σ1 = some q1) (ht9 : q1.2 56 1 = k) (ho : k = 0 → q1.2 82 0 = q1.1) (K : LW F q1.2 (cells + 1) (slots + 6) 1173 [(4, .int i), (3, .ref (lad F 82)), (2, .ref (lad F 56)), (1, .ref (lad F 0)), (0, .ref (lb F))] []) : LW F σ cells slots 520 [(4, .int i), (3, .ref (lad F 82)), (2, .ref (lad F 56)), (1, .ref (lad F 0)), (0, .ref (lb F))] [] := by
  refine l_aload_n C d_law_520 3 rfl ?_
  refine l_aload_n C d_law_521 4 rfl ?_
  refine l_iload C d_law_522 0 rfl ?_
  refine l_iconst (v := 1) C d_law_524 (by decide) ?_
  refine l_iadd C d_law_525 ?_
  refine l_sld C h1 d_law_526 ?_
  refine l_aload_n C d_law_527 4 rfl ?_
  refine l_iload C d_law_528 0 rfl ?_
  refine l_iconst (v := 2) C d_law_530 (by decide) ?_
  refine l_iadd C d_law_531 ?_
  refine l_sld C h2 d_law_532 ?_
  refine l_aload_n C d_law_533 1 rfl ?_
  refine l_callH C mh_99 [.ref (lad F 0), .int (sA F i 1), .int (sA F i 2), .ref (lad F 82)] (h_byteOf (sA F i 1) (sA F i 2) σ hk) rfl rfl (by decide) hc hs d_law_534 ?_
  refine l_istore C d_law_537 (by decide) rfl ?_
  refine l_aload_n C d_law_539 3 rfl ?_
  refine l_aload_n C d_law_540 5 rfl ?_
  refine l_iload C d_law_541 1 rfl ?_
  refine l_iconst (v := 1) C d_law_543 (by decide) ?_
  refine l_iadd C d_law_544 ?_
  refine l_sld C h1 d_law_545 ?_
  refine l_aload_n C d_law_546 5 rfl ?_
  refine l_iload C d_law_547 1 rfl ?_
  refine l_iconst (v := 2) C d_law_549 (by decide) ?_
  refine l_iadd C d_law_550 ?_
  refine l_sld C h2 d_law_551 ?_
  refine l_callM C mv_LAW_101 i5611 [.int (sA F i 1), .int (sA F i 2)] [] (c_RM_byteOf i5611 (sA F i 1) (sA F i 2) σ1 hq1) rfl rfl (by decide) hc hs (Nat.le_of_ble_eq_true rfl) d_law_552 ?_
  refine l_istore C d_law_555 (by decide) rfl ?_
  refine l_aload_n C d_law_557 4 rfl ?_
  refine l_callM C mv_LAW_80 i5611 [] [] (c_RM_thrown i5611 q1.2) rfl rfl (by decide) hc hs (Nat.le_of_ble_eq_true rfl) d_law_558 ?_
  refine l_iload C d_law_561 1 rfl ?_
  refine l_icmp_eq (tgt := 568) C d_law_563 (by decide) ht9 ?_
  refine l_iload C d_law_568 1 rfl ?_
  refine l_if_ne (tgt := 585) C d_law_570 (by decide) (fun _ => ?_) (fun hz9 => ?_)
  · refine l_goto (tgt := 1173) C d_law_585 (by decide) ?_
    refine l_sub [2, 3, 4, 5, 6] rfl ?_
    exact K
  · refine l_aload_n C d_law_573 3 rfl ?_
    refine l_iconst (v := 0) C d_law_574 (by decide) ?_
    refine l_out C d_law_575 ?_
    refine l_iload C d_law_576 0 rfl ?_
    refine l_i2l C d_law_578 ?_
    refine l_lcmp C d_law_579 ?_
    refine l_if_eq (tgt := 585) C d_law_580 (by decide) (fun _ => ?_) (fun c => absurd (lc0 (ho hz9)) c)
    refine l_goto (tgt := 1173) C d_law_585 (by decide) ?_
    refine l_sub [2, 3, 4, 5, 6] rfl ?_
    exact K
set_option maxHeartbeats 4000000 in
set_option maxRecDepth 100000 in
theorem law_6 {F : Lx} {σ : Mem} {cells slots : Nat} {i : Int32} (C : LCtx F) (hc : cells + 1 ≤ 601024) (hs : slots + 6 ≤ 7293000) (h1 : vp_in (i + 1) (lL F)) {t : (Int32 ⊕ Nat) × Mem} (ht : f_LF_write 0 (sA F i 1) σ = some t) {k : Int32} {σ1 : Mem} (hk : HRes [(1, 1), (3, 2)] (xrIM t) k σ1) {q1 : Int32 × Mem} (hq1 : f_RM_write 56 (sA F i 1) σ1 = some q1) (ht9 : q1.2 56 1 = k) (ho : k = 0 → q1.2 82 0 = q1.1) (K : LW F q1.2 (cells + 1) (slots + 6) 1173 [(4, .int i), (3, .ref (lad F 82)), (2, .ref (lad F 56)), (1, .ref (lad F 0)), (0, .ref (lb F))] []) : LW F σ cells slots 588 [(4, .int i), (3, .ref (lad F 82)), (2, .ref (lad F 56)), (1, .ref (lad F 0)), (0, .ref (lb F))] [] := by
  refine l_aload_n C d_law_588 3 rfl ?_
  refine l_aload_n C d_law_589 4 rfl ?_
  refine l_iload C d_law_590 0 rfl ?_
  refine l_iconst (v := 1) C d_law_592 (by decide) ?_
  refine l_iadd C d_law_593 ?_
  refine l_sld C h1 d_law_594 ?_
  refine l_aload_n C d_law_595 1 rfl ?_
  refine l_callH C mh_102 [.ref (lad F 0), .int (sA F i 1), .ref (lad F 82)] (h_write (sA F i 1) σ ht hk) rfl rfl (by decide) hc hs d_law_596 ?_
  refine l_istore C d_law_599 (by decide) rfl ?_
  refine l_aload_n C d_law_601 3 rfl ?_
  refine l_aload_n C d_law_602 5 rfl ?_
  refine l_iload C d_law_603 1 rfl ?_
  refine l_iconst (v := 1) C d_law_605 (by decide) ?_
  refine l_iadd C d_law_606 ?_
  refine l_sld C h1 d_law_607 ?_
  refine l_callM C mv_LAW_104 i5611 [.int (sA F i 1)] [] (c_RM_write i5611 (sA F i 1) σ1 hq1) rfl rfl (by decide) hc hs (Nat.le_of_ble_eq_true rfl) d_law_608 ?_
  refine l_istore C d_law_611 (by decide) rfl ?_
  refine l_aload_n C d_law_613 4 rfl ?_
  refine l_callM C mv_LAW_80 i5611 [] [] (c_RM_thrown i5611 q1.2) rfl rfl (by decide) hc hs (Nat.le_of_ble_eq_true rfl) d_law_614 ?_
  refine l_iload C d_law_617 1 rfl ?_
  refine l_icmp_eq (tgt := 624) C d_law_619 (by decide) ht9 ?_
  refine l_iload C d_law_624 1 rfl ?_
  refine l_if_ne (tgt := 641) C d_law_626 (by decide) (fun _ => ?_) (fun hz9 => ?_)
  · refine l_goto (tgt := 1173) C d_law_641 (by decide) ?_
    refine l_sub [2, 3, 4, 5, 6] rfl ?_
    exact K
  · refine l_aload_n C d_law_629 3 rfl ?_
    refine l_iconst (v := 0) C d_law_630 (by decide) ?_
    refine l_out C d_law_631 ?_
    refine l_iload C d_law_632 0 rfl ?_
    refine l_i2l C d_law_634 ?_
    refine l_lcmp C d_law_635 ?_
    refine l_if_eq (tgt := 641) C d_law_636 (by decide) (fun _ => ?_) (fun c => absurd (lc0 (ho hz9)) c)
    refine l_goto (tgt := 1173) C d_law_641 (by decide) ?_
    refine l_sub [2, 3, 4, 5, 6] rfl ?_
    exact K
set_option maxHeartbeats 4000000 in
set_option maxRecDepth 100000 in
theorem law_7 {F : Lx} {σ : Mem} {cells slots : Nat} {i : Int32} (C : LCtx F) (hc : cells + 1 ≤ 601024) (hs : slots + 6 ≤ 7293000) (h1 : vp_in (i + 1) (lL F)) {k : Int32} {σ1 : Mem} (hk : HRes [(2, 1)] (xrI (f_LF_byteAt 0 (sA F i 1) σ) σ) k σ1) {q1 : Int32 × Mem} (hq1 : f_RM_byteAt 56 (sA F i 1) σ1 = some q1) (ht9 : q1.2 56 1 = k) (ho : k = 0 → q1.2 82 0 = q1.1) (K : LW F q1.2 (cells + 1) (slots + 6) 1173 [(4, .int i), (3, .ref (lad F 82)), (2, .ref (lad F 56)), (1, .ref (lad F 0)), (0, .ref (lb F))] []) : LW F σ cells slots 644 [(4, .int i), (3, .ref (lad F 82)), (2, .ref (lad F 56)), (1, .ref (lad F 0)), (0, .ref (lb F))] [] := by
  refine l_aload_n C d_law_644 3 rfl ?_
  refine l_aload_n C d_law_645 4 rfl ?_
  refine l_iload C d_law_646 0 rfl ?_
  refine l_iconst (v := 1) C d_law_648 (by decide) ?_
  refine l_iadd C d_law_649 ?_
  refine l_sld C h1 d_law_650 ?_
  refine l_aload_n C d_law_651 1 rfl ?_
  refine l_callH C mh_105 [.ref (lad F 0), .int (sA F i 1), .ref (lad F 82)] (h_byteAt (sA F i 1) σ hk) rfl rfl (by decide) hc hs d_law_652 ?_
  refine l_istore C d_law_655 (by decide) rfl ?_
  refine l_aload_n C d_law_657 3 rfl ?_
  refine l_aload_n C d_law_658 5 rfl ?_
  refine l_iload C d_law_659 1 rfl ?_
  refine l_iconst (v := 1) C d_law_661 (by decide) ?_
  refine l_iadd C d_law_662 ?_
  refine l_sld C h1 d_law_663 ?_
  refine l_callM C mv_LAW_107 i5611 [.int (sA F i 1)] [] (c_RM_byteAt i5611 (sA F i 1) σ1 hq1) rfl rfl (by decide) hc hs (Nat.le_of_ble_eq_true rfl) d_law_664 ?_
  refine l_istore C d_law_667 (by decide) rfl ?_
  refine l_aload_n C d_law_669 4 rfl ?_
  refine l_callM C mv_LAW_80 i5611 [] [] (c_RM_thrown i5611 q1.2) rfl rfl (by decide) hc hs (Nat.le_of_ble_eq_true rfl) d_law_670 ?_
  refine l_iload C d_law_673 1 rfl ?_
  refine l_icmp_eq (tgt := 680) C d_law_675 (by decide) ht9 ?_
  refine l_iload C d_law_680 1 rfl ?_
  refine l_if_ne (tgt := 697) C d_law_682 (by decide) (fun _ => ?_) (fun hz9 => ?_)
  · refine l_goto (tgt := 1173) C d_law_697 (by decide) ?_
    refine l_sub [2, 3, 4, 5, 6] rfl ?_
    exact K
  · refine l_aload_n C d_law_685 3 rfl ?_
    refine l_iconst (v := 0) C d_law_686 (by decide) ?_
    refine l_out C d_law_687 ?_
    refine l_iload C d_law_688 0 rfl ?_
    refine l_i2l C d_law_690 ?_
    refine l_lcmp C d_law_691 ?_
    refine l_if_eq (tgt := 697) C d_law_692 (by decide) (fun _ => ?_) (fun c => absurd (lc0 (ho hz9)) c)
    refine l_goto (tgt := 1173) C d_law_697 (by decide) ?_
    refine l_sub [2, 3, 4, 5, 6] rfl ?_
    exact K
set_option maxHeartbeats 4000000 in
set_option maxRecDepth 100000 in
theorem law_8 {F : Lx} {σ : Mem} {cells slots : Nat} {i : Int32} (C : LCtx F) (hc : cells + 1 ≤ 601024) (hs : slots + 6 ≤ 7293000) (h1 : vp_in (i + 1) (lL F)) {k : Int32} {σ1 : Mem} (hk : HRes [(3, 1), (4, 2)] (xrIM (f_LF_feed 0 (sA F i 1) σ)) k σ1) {q1 : Int32 × Mem} (hq1 : f_RM_feed 56 (sA F i 1) σ1 = some q1) (ht9 : q1.2 56 1 = k) (ho : k = 0 → q1.2 82 0 = q1.1) (K : LW F q1.2 (cells + 1) (slots + 6) 1173 [(4, .int i), (3, .ref (lad F 82)), (2, .ref (lad F 56)), (1, .ref (lad F 0)), (0, .ref (lb F))] []) : LW F σ cells slots 700 [(4, .int i), (3, .ref (lad F 82)), (2, .ref (lad F 56)), (1, .ref (lad F 0)), (0, .ref (lb F))] [] := by
  refine l_aload_n C d_law_700 3 rfl ?_
  refine l_aload_n C d_law_701 4 rfl ?_
  refine l_iload C d_law_702 0 rfl ?_
  refine l_iconst (v := 1) C d_law_704 (by decide) ?_
  refine l_iadd C d_law_705 ?_
  refine l_sld C h1 d_law_706 ?_
  refine l_aload_n C d_law_707 1 rfl ?_
  refine l_callH C mh_108 [.ref (lad F 0), .int (sA F i 1), .ref (lad F 82)] (h_feed (sA F i 1) σ hk) rfl rfl (by decide) hc hs d_law_708 ?_
  refine l_istore C d_law_711 (by decide) rfl ?_
  refine l_aload_n C d_law_713 3 rfl ?_
  refine l_aload_n C d_law_714 5 rfl ?_
  refine l_iload C d_law_715 1 rfl ?_
  refine l_iconst (v := 1) C d_law_717 (by decide) ?_
  refine l_iadd C d_law_718 ?_
  refine l_sld C h1 d_law_719 ?_
  refine l_callM C mv_LAW_110 i5611 [.int (sA F i 1)] [] (c_RM_feed i5611 (sA F i 1) σ1 hq1) rfl rfl (by decide) hc hs (Nat.le_of_ble_eq_true rfl) d_law_720 ?_
  refine l_istore C d_law_723 (by decide) rfl ?_
  refine l_aload_n C d_law_725 4 rfl ?_
  refine l_callM C mv_LAW_80 i5611 [] [] (c_RM_thrown i5611 q1.2) rfl rfl (by decide) hc hs (Nat.le_of_ble_eq_true rfl) d_law_726 ?_
  refine l_iload C d_law_729 1 rfl ?_
  refine l_icmp_eq (tgt := 736) C d_law_731 (by decide) ht9 ?_
  refine l_iload C d_law_736 1 rfl ?_
  refine l_if_ne (tgt := 753) C d_law_738 (by decide) (fun _ => ?_) (fun hz9 => ?_)
  · refine l_goto (tgt := 1173) C d_law_753 (by decide) ?_
    refine l_sub [2, 3, 4, 5, 6] rfl ?_
    exact K
  · refine l_aload_n C d_law_741 3 rfl ?_
    refine l_iconst (v := 0) C d_law_742 (by decide) ?_
    refine l_out C d_law_743 ?_
    refine l_iload C d_law_744 0 rfl ?_
    refine l_i2l C d_law_746 ?_
    refine l_lcmp C d_law_747 ?_
    refine l_if_eq (tgt := 753) C d_law_748 (by decide) (fun _ => ?_) (fun c => absurd (lc0 (ho hz9)) c)
    refine l_goto (tgt := 1173) C d_law_753 (by decide) ?_
    refine l_sub [2, 3, 4, 5, 6] rfl ?_
    exact K
set_option maxHeartbeats 4000000 in
set_option maxRecDepth 100000 in
theorem law_9 {F : Lx} {σ : Mem} {cells slots : Nat} {i : Int32} (C : LCtx F) (hc : cells + 1 ≤ 601024) (hs : slots + 6 ≤ 7293000) (h1 : vp_in (i + 1) (lL F)) (h2 : vp_in (i + 2) (lL F)) {t : (Int32 ⊕ Nat) × Mem} (ht : f_LF_pass 0 (sA F i 1) (sA F i 2) σ = some t) {k : Int32} {σ1 : Mem} (hk : HRes [(2, 1), (3, 2), (4, 3)] (xrIM t) k σ1) {q1 : Int32 × Mem} (hq1 : f_RM_pass 56 (sA F i 1) (sA F i 2) σ1 = some q1) (ht9 : q1.2 56 1 = k) (ho : k = 0 → q1.2 82 0 = q1.1) (K : LW F q1.2 (cells + 1) (slots + 6) 1173 [(4, .int i), (3, .ref (lad F 82)), (2, .ref (lad F 56)), (1, .ref (lad F 0)), (0, .ref (lb F))] []) : LW F σ cells slots 756 [(4, .int i), (3, .ref (lad F 82)), (2, .ref (lad F 56)), (1, .ref (lad F 0)), (0, .ref (lb F))] [] := by
  refine l_aload_n C d_law_756 3 rfl ?_
  refine l_aload_n C d_law_757 4 rfl ?_
  refine l_iload C d_law_758 0 rfl ?_
  refine l_iconst (v := 1) C d_law_760 (by decide) ?_
  refine l_iadd C d_law_761 ?_
  refine l_sld C h1 d_law_762 ?_
  refine l_aload_n C d_law_763 4 rfl ?_
  refine l_iload C d_law_764 0 rfl ?_
  refine l_iconst (v := 2) C d_law_766 (by decide) ?_
  refine l_iadd C d_law_767 ?_
  refine l_sld C h2 d_law_768 ?_
  refine l_aload_n C d_law_769 1 rfl ?_
  refine l_callH C mh_111 [.ref (lad F 0), .int (sA F i 1), .int (sA F i 2), .ref (lad F 82)] (h_pass (sA F i 1) (sA F i 2) σ ht hk) rfl rfl (by decide) hc hs d_law_770 ?_
  refine l_istore C d_law_773 (by decide) rfl ?_
  refine l_aload_n C d_law_775 3 rfl ?_
  refine l_aload_n C d_law_776 5 rfl ?_
  refine l_iload C d_law_777 1 rfl ?_
  refine l_iconst (v := 1) C d_law_779 (by decide) ?_
  refine l_iadd C d_law_780 ?_
  refine l_sld C h1 d_law_781 ?_
  refine l_aload_n C d_law_782 5 rfl ?_
  refine l_iload C d_law_783 1 rfl ?_
  refine l_iconst (v := 2) C d_law_785 (by decide) ?_
  refine l_iadd C d_law_786 ?_
  refine l_sld C h2 d_law_787 ?_
  refine l_callM C mv_LAW_113 i5611 [.int (sA F i 1), .int (sA F i 2)] [] (c_RM_pass i5611 (sA F i 1) (sA F i 2) σ1 hq1) rfl rfl (by decide) hc hs (Nat.le_of_ble_eq_true rfl) d_law_788 ?_
  refine l_istore C d_law_791 (by decide) rfl ?_
  refine l_aload_n C d_law_793 4 rfl ?_
  refine l_callM C mv_LAW_80 i5611 [] [] (c_RM_thrown i5611 q1.2) rfl rfl (by decide) hc hs (Nat.le_of_ble_eq_true rfl) d_law_794 ?_
  refine l_iload C d_law_797 1 rfl ?_
  refine l_icmp_eq (tgt := 804) C d_law_799 (by decide) ht9 ?_
  refine l_iload C d_law_804 1 rfl ?_
  refine l_if_ne (tgt := 821) C d_law_806 (by decide) (fun _ => ?_) (fun hz9 => ?_)
  · refine l_goto (tgt := 1173) C d_law_821 (by decide) ?_
    refine l_sub [2, 3, 4, 5, 6] rfl ?_
    exact K
  · refine l_aload_n C d_law_809 3 rfl ?_
    refine l_iconst (v := 0) C d_law_810 (by decide) ?_
    refine l_out C d_law_811 ?_
    refine l_iload C d_law_812 0 rfl ?_
    refine l_i2l C d_law_814 ?_
    refine l_lcmp C d_law_815 ?_
    refine l_if_eq (tgt := 821) C d_law_816 (by decide) (fun _ => ?_) (fun c => absurd (lc0 (ho hz9)) c)
    refine l_goto (tgt := 1173) C d_law_821 (by decide) ?_
    refine l_sub [2, 3, 4, 5, 6] rfl ?_
    exact K
set_option maxHeartbeats 4000000 in
set_option maxRecDepth 100000 in
theorem law_10 {F : Lx} {σ : Mem} {cells slots : Nat} {i : Int32} (C : LCtx F) (hc : cells + 1 ≤ 601024) (hs : slots + 6 ≤ 7293000) (h1 : vp_in (i + 1) (lL F)) (h2 : vp_in (i + 2) (lL F)) {k : Int32} {σ1 : Mem} (hk : HRes [(2, 1), (3, 2)] (xrIM (f_LF_alter 0 (sA F i 1) (sA F i 2) σ)) k σ1) {q1 : Int32 × Mem} (hq1 : f_RM_alter 56 (sA F i 1) (sA F i 2) σ1 = some q1) (ht9 : q1.2 56 1 = k) (ho : k = 0 → q1.2 82 0 = q1.1) (K : LW F q1.2 (cells + 1) (slots + 6) 1173 [(4, .int i), (3, .ref (lad F 82)), (2, .ref (lad F 56)), (1, .ref (lad F 0)), (0, .ref (lb F))] []) : LW F σ cells slots 824 [(4, .int i), (3, .ref (lad F 82)), (2, .ref (lad F 56)), (1, .ref (lad F 0)), (0, .ref (lb F))] [] := by
  refine l_aload_n C d_law_824 3 rfl ?_
  refine l_aload_n C d_law_825 4 rfl ?_
  refine l_iload C d_law_826 0 rfl ?_
  refine l_iconst (v := 1) C d_law_828 (by decide) ?_
  refine l_iadd C d_law_829 ?_
  refine l_sld C h1 d_law_830 ?_
  refine l_aload_n C d_law_831 4 rfl ?_
  refine l_iload C d_law_832 0 rfl ?_
  refine l_iconst (v := 2) C d_law_834 (by decide) ?_
  refine l_iadd C d_law_835 ?_
  refine l_sld C h2 d_law_836 ?_
  refine l_aload_n C d_law_837 1 rfl ?_
  refine l_callH C mh_114 [.ref (lad F 0), .int (sA F i 1), .int (sA F i 2), .ref (lad F 82)] (h_alter (sA F i 1) (sA F i 2) σ hk) rfl rfl (by decide) hc hs d_law_838 ?_
  refine l_istore C d_law_841 (by decide) rfl ?_
  refine l_aload_n C d_law_843 3 rfl ?_
  refine l_aload_n C d_law_844 5 rfl ?_
  refine l_iload C d_law_845 1 rfl ?_
  refine l_iconst (v := 1) C d_law_847 (by decide) ?_
  refine l_iadd C d_law_848 ?_
  refine l_sld C h1 d_law_849 ?_
  refine l_aload_n C d_law_850 5 rfl ?_
  refine l_iload C d_law_851 1 rfl ?_
  refine l_iconst (v := 2) C d_law_853 (by decide) ?_
  refine l_iadd C d_law_854 ?_
  refine l_sld C h2 d_law_855 ?_
  refine l_callM C mv_LAW_116 i5611 [.int (sA F i 1), .int (sA F i 2)] [] (c_RM_alter i5611 (sA F i 1) (sA F i 2) σ1 hq1) rfl rfl (by decide) hc hs (Nat.le_of_ble_eq_true rfl) d_law_856 ?_
  refine l_istore C d_law_859 (by decide) rfl ?_
  refine l_aload_n C d_law_861 4 rfl ?_
  refine l_callM C mv_LAW_80 i5611 [] [] (c_RM_thrown i5611 q1.2) rfl rfl (by decide) hc hs (Nat.le_of_ble_eq_true rfl) d_law_862 ?_
  refine l_iload C d_law_865 1 rfl ?_
  refine l_icmp_eq (tgt := 872) C d_law_867 (by decide) ht9 ?_
  refine l_iload C d_law_872 1 rfl ?_
  refine l_if_ne (tgt := 889) C d_law_874 (by decide) (fun _ => ?_) (fun hz9 => ?_)
  · refine l_goto (tgt := 1173) C d_law_889 (by decide) ?_
    refine l_sub [2, 3, 4, 5, 6] rfl ?_
    exact K
  · refine l_aload_n C d_law_877 3 rfl ?_
    refine l_iconst (v := 0) C d_law_878 (by decide) ?_
    refine l_out C d_law_879 ?_
    refine l_iload C d_law_880 0 rfl ?_
    refine l_i2l C d_law_882 ?_
    refine l_lcmp C d_law_883 ?_
    refine l_if_eq (tgt := 889) C d_law_884 (by decide) (fun _ => ?_) (fun c => absurd (lc0 (ho hz9)) c)
    refine l_goto (tgt := 1173) C d_law_889 (by decide) ?_
    refine l_sub [2, 3, 4, 5, 6] rfl ?_
    exact K
set_option maxHeartbeats 4000000 in
set_option maxRecDepth 100000 in
theorem law_11 {F : Lx} {σ : Mem} {cells slots : Nat} {i : Int32} (C : LCtx F) (hc : cells ≤ 601024) (hs : slots ≤ 7293000) {q1 : Int32 × Mem} (hq1 : f_LF_read 0 σ = some q1) {q2 : Int32 × Mem} (hq2 : f_RM_read 56 q1.2 = some q2) (he : q1.1 = q2.1) (K : LW F q2.2 cells slots 1173 [(4, .int i), (3, .ref (lad F 82)), (2, .ref (lad F 56)), (1, .ref (lad F 0)), (0, .ref (lb F))] []) : LW F σ cells slots 892 [(4, .int i), (3, .ref (lad F 82)), (2, .ref (lad F 56)), (1, .ref (lad F 0)), (0, .ref (lb F))] [] := by
  refine l_aload_n C d_law_892 3 rfl ?_
  refine l_callM C mv_LAW_117 i00 [] [] (c_LF_read i00 σ hq1) rfl rfl (by decide) hc hs (Nat.le_of_ble_eq_true rfl) d_law_893 ?_
  refine l_aload_n C d_law_896 2 rfl ?_
  refine l_callM C mv_LAW_120 i5611 [] [.int q1.1] (c_RM_read i5611 q1.2 hq2) rfl rfl (by decide) hc hs (Nat.le_of_ble_eq_true rfl) d_law_897 ?_
  refine l_icmp_eq (tgt := 1173) C d_law_900 (by decide) he ?_
  exact K
set_option maxHeartbeats 4000000 in
set_option maxRecDepth 100000 in
theorem law_12a {F : Lx} {σ : Mem} {cells slots : Nat} {i : Int32} (C : LCtx F) (hc : cells + 1 ≤ 601024) (hs : slots + 6 ≤ 7293000) (h1 : vp_in (i + 1) (lL F)) (h2 : vp_in (i + 2) (lL F)) (h3 : vp_in (i + 3) (lL F)) (h4 : vp_in (i + 4) (lL F)) (hz : sA F i 4 = 0) {k : Int32} {σ1 : Mem} (hk : HRes [(1, 1), (2, 2)] (xrI (f_LF_at 0 (sA F i 1) (sA F i 2) (sA F i 3) 0 σ) σ) k σ1) {q1 : Int32 × Mem} (hq1 : f_RM_at 56 (sA F i 1) (sA F i 2) (sA F i 3) 0 σ1 = some q1) (ht9 : q1.2 56 1 = k) (ho : k = 0 → q1.2 82 0 = q1.1) (K : LW F q1.2 (cells + 1) (slots + 6) 1173 [(4, .int i), (3, .ref (lad F 82)), (2, .ref (lad F 56)), (1, .ref (lad F 0)), (0, .ref (lb F))] []) : LW F σ cells slots 905 [(4, .int i), (3, .ref (lad F 82)), (2, .ref (lad F 56)), (1, .ref (lad F 0)), (0, .ref (lb F))] [] := by
  refine l_aload_n C d_law_905 3 rfl ?_
  refine l_aload_n C d_law_906 4 rfl ?_
  refine l_iload C d_law_907 0 rfl ?_
  refine l_iconst (v := 1) C d_law_909 (by decide) ?_
  refine l_iadd C d_law_910 ?_
  refine l_sld C h1 d_law_911 ?_
  refine l_aload_n C d_law_912 4 rfl ?_
  refine l_iload C d_law_913 0 rfl ?_
  refine l_iconst (v := 2) C d_law_915 (by decide) ?_
  refine l_iadd C d_law_916 ?_
  refine l_sld C h2 d_law_917 ?_
  refine l_aload_n C d_law_918 4 rfl ?_
  refine l_iload C d_law_919 0 rfl ?_
  refine l_iconst (v := 3) C d_law_921 (by decide) ?_
  refine l_iadd C d_law_922 ?_
  refine l_sld C h3 d_law_923 ?_
  refine l_aload_n C d_law_924 4 rfl ?_
  refine l_iload C d_law_925 0 rfl ?_
  refine l_iconst (v := 4) C d_law_927 (by decide) ?_
  refine l_iadd C d_law_928 ?_
  refine l_sld C h4 d_law_929 ?_
  refine l_if_eq (tgt := 937) C d_law_930 (by decide) (fun _ => ?_) (fun c => absurd hz c)
  refine l_iconst (v := 0) C d_law_937 (by decide) ?_
  refine l_aload_n C d_law_938 1 rfl ?_
  refine l_callH C mh_121 [.ref (lad F 0), .int (sA F i 1), .int (sA F i 2), .int (sA F i 3), .int 0, .ref (lad F 82)] (h_at (sA F i 1) (sA F i 2) (sA F i 3) 0 σ hk) rfl rfl (by decide) hc hs d_law_939 ?_
  refine l_istore C d_law_942 (by decide) rfl ?_
  refine l_aload_n C d_law_944 3 rfl ?_
  refine l_aload_n C d_law_945 5 rfl ?_
  refine l_iload C d_law_946 1 rfl ?_
  refine l_iconst (v := 1) C d_law_948 (by decide) ?_
  refine l_iadd C d_law_949 ?_
  refine l_sld C h1 d_law_950 ?_
  refine l_aload_n C d_law_951 5 rfl ?_
  refine l_iload C d_law_952 1 rfl ?_
  refine l_iconst (v := 2) C d_law_954 (by decide) ?_
  refine l_iadd C d_law_955 ?_
  refine l_sld C h2 d_law_956 ?_
  refine l_aload_n C d_law_957 5 rfl ?_
  refine l_iload C d_law_958 1 rfl ?_
  refine l_iconst (v := 3) C d_law_960 (by decide) ?_
  refine l_iadd C d_law_961 ?_
  refine l_sld C h3 d_law_962 ?_
  refine l_aload_n C d_law_963 5 rfl ?_
  refine l_iload C d_law_964 1 rfl ?_
  refine l_iconst (v := 4) C d_law_966 (by decide) ?_
  refine l_iadd C d_law_967 ?_
  refine l_sld C h4 d_law_968 ?_
  refine l_if_eq (tgt := 976) C d_law_969 (by decide) (fun _ => ?_) (fun c => absurd hz c)
  refine l_iconst (v := 0) C d_law_976 (by decide) ?_
  refine l_callM C mv_LAW_124 i5611 [.int (sA F i 1), .int (sA F i 2), .int (sA F i 3), .int 0] [] (c_RM_at i5611 (sA F i 1) (sA F i 2) (sA F i 3) 0 σ1 hq1) rfl rfl (by decide) hc hs (Nat.le_of_ble_eq_true rfl) d_law_977 ?_
  refine l_istore C d_law_980 (by decide) rfl ?_
  refine l_aload_n C d_law_982 4 rfl ?_
  refine l_callM C mv_LAW_80 i5611 [] [] (c_RM_thrown i5611 q1.2) rfl rfl (by decide) hc hs (Nat.le_of_ble_eq_true rfl) d_law_983 ?_
  refine l_iload C d_law_986 1 rfl ?_
  refine l_icmp_eq (tgt := 993) C d_law_988 (by decide) ht9 ?_
  refine l_iload C d_law_993 1 rfl ?_
  refine l_if_ne (tgt := 1010) C d_law_995 (by decide) (fun _ => ?_) (fun hz9 => ?_)
  · refine l_goto (tgt := 1173) C d_law_1010 (by decide) ?_
    refine l_sub [2, 3, 4, 5, 6] rfl ?_
    exact K
  · refine l_aload_n C d_law_998 3 rfl ?_
    refine l_iconst (v := 0) C d_law_999 (by decide) ?_
    refine l_out C d_law_1000 ?_
    refine l_iload C d_law_1001 0 rfl ?_
    refine l_i2l C d_law_1003 ?_
    refine l_lcmp C d_law_1004 ?_
    refine l_if_eq (tgt := 1010) C d_law_1005 (by decide) (fun _ => ?_) (fun c => absurd (lc0 (ho hz9)) c)
    refine l_goto (tgt := 1173) C d_law_1010 (by decide) ?_
    refine l_sub [2, 3, 4, 5, 6] rfl ?_
    exact K
set_option maxHeartbeats 4000000 in
set_option maxRecDepth 100000 in
theorem law_12b {F : Lx} {σ : Mem} {cells slots : Nat} {i : Int32} (C : LCtx F) (hc : cells + 1 ≤ 601024) (hs : slots + 6 ≤ 7293000) (h1 : vp_in (i + 1) (lL F)) (h2 : vp_in (i + 2) (lL F)) (h3 : vp_in (i + 3) (lL F)) (h4 : vp_in (i + 4) (lL F)) (hz : ¬ sA F i 4 = 0) {k : Int32} {σ1 : Mem} (hk : HRes [(1, 1), (2, 2)] (xrI (f_LF_at 0 (sA F i 1) (sA F i 2) (sA F i 3) 1 σ) σ) k σ1) {q1 : Int32 × Mem} (hq1 : f_RM_at 56 (sA F i 1) (sA F i 2) (sA F i 3) 1 σ1 = some q1) (ht9 : q1.2 56 1 = k) (ho : k = 0 → q1.2 82 0 = q1.1) (K : LW F q1.2 (cells + 1) (slots + 6) 1173 [(4, .int i), (3, .ref (lad F 82)), (2, .ref (lad F 56)), (1, .ref (lad F 0)), (0, .ref (lb F))] []) : LW F σ cells slots 905 [(4, .int i), (3, .ref (lad F 82)), (2, .ref (lad F 56)), (1, .ref (lad F 0)), (0, .ref (lb F))] [] := by
  refine l_aload_n C d_law_905 3 rfl ?_
  refine l_aload_n C d_law_906 4 rfl ?_
  refine l_iload C d_law_907 0 rfl ?_
  refine l_iconst (v := 1) C d_law_909 (by decide) ?_
  refine l_iadd C d_law_910 ?_
  refine l_sld C h1 d_law_911 ?_
  refine l_aload_n C d_law_912 4 rfl ?_
  refine l_iload C d_law_913 0 rfl ?_
  refine l_iconst (v := 2) C d_law_915 (by decide) ?_
  refine l_iadd C d_law_916 ?_
  refine l_sld C h2 d_law_917 ?_
  refine l_aload_n C d_law_918 4 rfl ?_
  refine l_iload C d_law_919 0 rfl ?_
  refine l_iconst (v := 3) C d_law_921 (by decide) ?_
  refine l_iadd C d_law_922 ?_
  refine l_sld C h3 d_law_923 ?_
  refine l_aload_n C d_law_924 4 rfl ?_
  refine l_iload C d_law_925 0 rfl ?_
  refine l_iconst (v := 4) C d_law_927 (by decide) ?_
  refine l_iadd C d_law_928 ?_
  refine l_sld C h4 d_law_929 ?_
  refine l_if_eq (tgt := 937) C d_law_930 (by decide) (fun c => absurd c hz) (fun _ => ?_)
  refine l_iconst (v := 1) C d_law_933 (by decide) ?_
  refine l_goto (tgt := 938) C d_law_934 (by decide) ?_
  refine l_aload_n C d_law_938 1 rfl ?_
  refine l_callH C mh_121 [.ref (lad F 0), .int (sA F i 1), .int (sA F i 2), .int (sA F i 3), .int 1, .ref (lad F 82)] (h_at (sA F i 1) (sA F i 2) (sA F i 3) 1 σ hk) rfl rfl (by decide) hc hs d_law_939 ?_
  refine l_istore C d_law_942 (by decide) rfl ?_
  refine l_aload_n C d_law_944 3 rfl ?_
  refine l_aload_n C d_law_945 5 rfl ?_
  refine l_iload C d_law_946 1 rfl ?_
  refine l_iconst (v := 1) C d_law_948 (by decide) ?_
  refine l_iadd C d_law_949 ?_
  refine l_sld C h1 d_law_950 ?_
  refine l_aload_n C d_law_951 5 rfl ?_
  refine l_iload C d_law_952 1 rfl ?_
  refine l_iconst (v := 2) C d_law_954 (by decide) ?_
  refine l_iadd C d_law_955 ?_
  refine l_sld C h2 d_law_956 ?_
  refine l_aload_n C d_law_957 5 rfl ?_
  refine l_iload C d_law_958 1 rfl ?_
  refine l_iconst (v := 3) C d_law_960 (by decide) ?_
  refine l_iadd C d_law_961 ?_
  refine l_sld C h3 d_law_962 ?_
  refine l_aload_n C d_law_963 5 rfl ?_
  refine l_iload C d_law_964 1 rfl ?_
  refine l_iconst (v := 4) C d_law_966 (by decide) ?_
  refine l_iadd C d_law_967 ?_
  refine l_sld C h4 d_law_968 ?_
  refine l_if_eq (tgt := 976) C d_law_969 (by decide) (fun c => absurd c hz) (fun _ => ?_)
  refine l_iconst (v := 1) C d_law_972 (by decide) ?_
  refine l_goto (tgt := 977) C d_law_973 (by decide) ?_
  refine l_callM C mv_LAW_124 i5611 [.int (sA F i 1), .int (sA F i 2), .int (sA F i 3), .int 1] [] (c_RM_at i5611 (sA F i 1) (sA F i 2) (sA F i 3) 1 σ1 hq1) rfl rfl (by decide) hc hs (Nat.le_of_ble_eq_true rfl) d_law_977 ?_
  refine l_istore C d_law_980 (by decide) rfl ?_
  refine l_aload_n C d_law_982 4 rfl ?_
  refine l_callM C mv_LAW_80 i5611 [] [] (c_RM_thrown i5611 q1.2) rfl rfl (by decide) hc hs (Nat.le_of_ble_eq_true rfl) d_law_983 ?_
  refine l_iload C d_law_986 1 rfl ?_
  refine l_icmp_eq (tgt := 993) C d_law_988 (by decide) ht9 ?_
  refine l_iload C d_law_993 1 rfl ?_
  refine l_if_ne (tgt := 1010) C d_law_995 (by decide) (fun _ => ?_) (fun hz9 => ?_)
  · refine l_goto (tgt := 1173) C d_law_1010 (by decide) ?_
    refine l_sub [2, 3, 4, 5, 6] rfl ?_
    exact K
  · refine l_aload_n C d_law_998 3 rfl ?_
    refine l_iconst (v := 0) C d_law_999 (by decide) ?_
    refine l_out C d_law_1000 ?_
    refine l_iload C d_law_1001 0 rfl ?_
    refine l_i2l C d_law_1003 ?_
    refine l_lcmp C d_law_1004 ?_
    refine l_if_eq (tgt := 1010) C d_law_1005 (by decide) (fun _ => ?_) (fun c => absurd (lc0 (ho hz9)) c)
    refine l_goto (tgt := 1173) C d_law_1010 (by decide) ?_
    refine l_sub [2, 3, 4, 5, 6] rfl ?_
    exact K
set_option maxHeartbeats 4000000 in
set_option maxRecDepth 100000 in
theorem law_13 {F : Lx} {σ : Mem} {cells slots : Nat} {i : Int32} (C : LCtx F) (hc : cells + 1 ≤ 601024) (hs : slots + 6 ≤ 7293000) (h1 : vp_in (i + 1) (lL F)) {k : Int32} {σ1 : Mem} (hk : HRes [(1, 1)] (xrI (f_LF_found 0 (sA F i 1) σ) σ) k σ1) {q1 : Int32 × Mem} (hq1 : f_RM_found 56 (sA F i 1) σ1 = some q1) (ht9 : q1.2 56 1 = k) (ho : k = 0 → q1.2 82 0 = q1.1) (K : LW F q1.2 (cells + 1) (slots + 6) 1173 [(4, .int i), (3, .ref (lad F 82)), (2, .ref (lad F 56)), (1, .ref (lad F 0)), (0, .ref (lb F))] []) : LW F σ cells slots 1013 [(4, .int i), (3, .ref (lad F 82)), (2, .ref (lad F 56)), (1, .ref (lad F 0)), (0, .ref (lb F))] [] := by
  refine l_aload_n C d_law_1013 3 rfl ?_
  refine l_aload_n C d_law_1014 4 rfl ?_
  refine l_iload C d_law_1015 0 rfl ?_
  refine l_iconst (v := 1) C d_law_1017 (by decide) ?_
  refine l_iadd C d_law_1018 ?_
  refine l_sld C h1 d_law_1019 ?_
  refine l_aload_n C d_law_1020 1 rfl ?_
  refine l_callH C mh_125 [.ref (lad F 0), .int (sA F i 1), .ref (lad F 82)] (h_found (sA F i 1) σ hk) rfl rfl (by decide) hc hs d_law_1021 ?_
  refine l_istore C d_law_1024 (by decide) rfl ?_
  refine l_aload_n C d_law_1026 3 rfl ?_
  refine l_aload_n C d_law_1027 5 rfl ?_
  refine l_iload C d_law_1028 1 rfl ?_
  refine l_iconst (v := 1) C d_law_1030 (by decide) ?_
  refine l_iadd C d_law_1031 ?_
  refine l_sld C h1 d_law_1032 ?_
  refine l_callM C mv_LAW_127 i5611 [.int (sA F i 1)] [] (c_RM_found i5611 (sA F i 1) σ1 hq1) rfl rfl (by decide) hc hs (Nat.le_of_ble_eq_true rfl) d_law_1033 ?_
  refine l_istore C d_law_1036 (by decide) rfl ?_
  refine l_aload_n C d_law_1038 4 rfl ?_
  refine l_callM C mv_LAW_80 i5611 [] [] (c_RM_thrown i5611 q1.2) rfl rfl (by decide) hc hs (Nat.le_of_ble_eq_true rfl) d_law_1039 ?_
  refine l_iload C d_law_1042 1 rfl ?_
  refine l_icmp_eq (tgt := 1049) C d_law_1044 (by decide) ht9 ?_
  refine l_iload C d_law_1049 1 rfl ?_
  refine l_if_ne (tgt := 1066) C d_law_1051 (by decide) (fun _ => ?_) (fun hz9 => ?_)
  · refine l_goto (tgt := 1173) C d_law_1066 (by decide) ?_
    refine l_sub [2, 3, 4, 5, 6] rfl ?_
    exact K
  · refine l_aload_n C d_law_1054 3 rfl ?_
    refine l_iconst (v := 0) C d_law_1055 (by decide) ?_
    refine l_out C d_law_1056 ?_
    refine l_iload C d_law_1057 0 rfl ?_
    refine l_i2l C d_law_1059 ?_
    refine l_lcmp C d_law_1060 ?_
    refine l_if_eq (tgt := 1066) C d_law_1061 (by decide) (fun _ => ?_) (fun c => absurd (lc0 (ho hz9)) c)
    refine l_goto (tgt := 1173) C d_law_1066 (by decide) ?_
    refine l_sub [2, 3, 4, 5, 6] rfl ?_
    exact K
set_option maxHeartbeats 4000000 in
set_option maxRecDepth 100000 in
theorem law_14 {F : Lx} {σ : Mem} {cells slots : Nat} {i : Int32} (C : LCtx F) (hc : cells + 1 ≤ 601024) (hs : slots + 6 ≤ 7293000) (h1 : vp_in (i + 1) (lL F)) (h2 : vp_in (i + 2) (lL F)) {k : Int32} {σ1 : Mem} (hk : HRes [(1, 1), (2, 2)] (xrI (f_LF_noteAt 0 (sA F i 1) (sA F i 2) σ) σ) k σ1) {q1 : Int32 × Mem} (hq1 : f_RM_noteAt 56 (sA F i 1) (sA F i 2) σ1 = some q1) (ht9 : q1.2 56 1 = k) (ho : k = 0 → q1.2 82 0 = q1.1) (K : LW F q1.2 (cells + 1) (slots + 6) 1173 [(4, .int i), (3, .ref (lad F 82)), (2, .ref (lad F 56)), (1, .ref (lad F 0)), (0, .ref (lb F))] []) : LW F σ cells slots 1069 [(4, .int i), (3, .ref (lad F 82)), (2, .ref (lad F 56)), (1, .ref (lad F 0)), (0, .ref (lb F))] [] := by
  refine l_aload_n C d_law_1069 3 rfl ?_
  refine l_aload_n C d_law_1070 4 rfl ?_
  refine l_iload C d_law_1071 0 rfl ?_
  refine l_iconst (v := 1) C d_law_1073 (by decide) ?_
  refine l_iadd C d_law_1074 ?_
  refine l_sld C h1 d_law_1075 ?_
  refine l_aload_n C d_law_1076 4 rfl ?_
  refine l_iload C d_law_1077 0 rfl ?_
  refine l_iconst (v := 2) C d_law_1079 (by decide) ?_
  refine l_iadd C d_law_1080 ?_
  refine l_sld C h2 d_law_1081 ?_
  refine l_aload_n C d_law_1082 1 rfl ?_
  refine l_callH C mh_128 [.ref (lad F 0), .int (sA F i 1), .int (sA F i 2), .ref (lad F 82)] (h_noteAt (sA F i 1) (sA F i 2) σ hk) rfl rfl (by decide) hc hs d_law_1083 ?_
  refine l_istore C d_law_1086 (by decide) rfl ?_
  refine l_aload_n C d_law_1088 3 rfl ?_
  refine l_aload_n C d_law_1089 5 rfl ?_
  refine l_iload C d_law_1090 1 rfl ?_
  refine l_iconst (v := 1) C d_law_1092 (by decide) ?_
  refine l_iadd C d_law_1093 ?_
  refine l_sld C h1 d_law_1094 ?_
  refine l_aload_n C d_law_1095 5 rfl ?_
  refine l_iload C d_law_1096 1 rfl ?_
  refine l_iconst (v := 2) C d_law_1098 (by decide) ?_
  refine l_iadd C d_law_1099 ?_
  refine l_sld C h2 d_law_1100 ?_
  refine l_callM C mv_LAW_130 i5611 [.int (sA F i 1), .int (sA F i 2)] [] (c_RM_noteAt i5611 (sA F i 1) (sA F i 2) σ1 hq1) rfl rfl (by decide) hc hs (Nat.le_of_ble_eq_true rfl) d_law_1101 ?_
  refine l_istore C d_law_1104 (by decide) rfl ?_
  refine l_aload_n C d_law_1106 4 rfl ?_
  refine l_callM C mv_LAW_80 i5611 [] [] (c_RM_thrown i5611 q1.2) rfl rfl (by decide) hc hs (Nat.le_of_ble_eq_true rfl) d_law_1107 ?_
  refine l_iload C d_law_1110 1 rfl ?_
  refine l_icmp_eq (tgt := 1117) C d_law_1112 (by decide) ht9 ?_
  refine l_iload C d_law_1117 1 rfl ?_
  refine l_if_ne (tgt := 1134) C d_law_1119 (by decide) (fun _ => ?_) (fun hz9 => ?_)
  · refine l_goto (tgt := 1173) C d_law_1134 (by decide) ?_
    refine l_sub [2, 3, 4, 5, 6] rfl ?_
    exact K
  · refine l_aload_n C d_law_1122 3 rfl ?_
    refine l_iconst (v := 0) C d_law_1123 (by decide) ?_
    refine l_out C d_law_1124 ?_
    refine l_iload C d_law_1125 0 rfl ?_
    refine l_i2l C d_law_1127 ?_
    refine l_lcmp C d_law_1128 ?_
    refine l_if_eq (tgt := 1134) C d_law_1129 (by decide) (fun _ => ?_) (fun c => absurd (lc0 (ho hz9)) c)
    refine l_goto (tgt := 1173) C d_law_1134 (by decide) ?_
    refine l_sub [2, 3, 4, 5, 6] rfl ?_
    exact K
set_option maxHeartbeats 4000000 in
set_option maxRecDepth 100000 in
theorem law_15 {F : Lx} {σ : Mem} {cells slots : Nat} {i : Int32} (C : LCtx F) (hc : cells ≤ 601024) (hs : slots ≤ 7293000) (h1 : vp_in (i + 1) (lL F)) (he : (f_LF_told 0 (sA F i 1) σ) = (f_RM_told 56 (sA F i 1) σ).1) (K : LW F ((f_RM_told 56 (sA F i 1) σ).2) cells slots 1173 [(4, .int i), (3, .ref (lad F 82)), (2, .ref (lad F 56)), (1, .ref (lad F 0)), (0, .ref (lb F))] []) : LW F σ cells slots 1137 [(4, .int i), (3, .ref (lad F 82)), (2, .ref (lad F 56)), (1, .ref (lad F 0)), (0, .ref (lb F))] [] := by
  refine l_aload_n C d_law_1137 3 rfl ?_
  refine l_aload_n C d_law_1138 4 rfl ?_
  refine l_iload C d_law_1139 0 rfl ?_
  refine l_iconst (v := 1) C d_law_1141 (by decide) ?_
  refine l_iadd C d_law_1142 ?_
  refine l_sld C h1 d_law_1143 ?_
  refine l_callM C mv_LAW_131 i00 [.int (sA F i 1)] [] (c_LF_told i00 (sA F i 1) σ) rfl rfl (by decide) hc hs (Nat.le_of_ble_eq_true rfl) d_law_1144 ?_
  refine l_aload_n C d_law_1147 2 rfl ?_
  refine l_aload_n C d_law_1148 4 rfl ?_
  refine l_iload C d_law_1149 0 rfl ?_
  refine l_iconst (v := 1) C d_law_1151 (by decide) ?_
  refine l_iadd C d_law_1152 ?_
  refine l_sld C h1 d_law_1153 ?_
  refine l_callM C mv_LAW_134 i5611 [.int (sA F i 1)] [.int (f_LF_told 0 (sA F i 1) σ)] (c_RM_told i5611 (sA F i 1) σ) rfl rfl (by decide) hc hs (Nat.le_of_ble_eq_true rfl) d_law_1154 ?_
  refine l_icmp_eq (tgt := 1173) C d_law_1157 (by decide) he ?_
  exact K
set_option maxHeartbeats 4000000 in
set_option maxRecDepth 100000 in
theorem law_16 {F : Lx} {σ : Mem} {cells slots : Nat} {i : Int32} (C : LCtx F) (hc : cells ≤ 601024) (hs : slots ≤ 7293000) (K : LW F (f_RM_drop 56 (f_LF_drop 0 σ)) cells slots 1173 [(4, .int i), (3, .ref (lad F 82)), (2, .ref (lad F 56)), (1, .ref (lad F 0)), (0, .ref (lb F))] []) : LW F σ cells slots 1162 [(4, .int i), (3, .ref (lad F 82)), (2, .ref (lad F 56)), (1, .ref (lad F 0)), (0, .ref (lb F))] [] := by
  refine l_aload_n C d_law_1162 3 rfl ?_
  refine l_callMv C mv_LAW_135 i00 [] [] (c_LF_drop i00 σ) rfl rfl (by decide) hc hs (Nat.le_of_ble_eq_true rfl) d_law_1163 ?_
  refine l_aload_n C d_law_1166 2 rfl ?_
  refine l_callMv C mv_LAW_138 i5611 [] [] (c_RM_drop i5611 (f_LF_drop 0 σ)) rfl rfl (by decide) hc hs (Nat.le_of_ble_eq_true rfl) d_law_1167 ?_
  refine l_goto (tgt := 1173) C d_law_1170 (by decide) ?_
  exact K
