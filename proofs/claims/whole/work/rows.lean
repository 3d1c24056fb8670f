section
-- ===== PART A: goes FIRST, ahead of the names: the tables' words, and 'selects' of the private methods out of them =====
/-- a private method of a class that the tables say can be made, by its rows of tables_1 -/
def lw_okq (q : MethodName × Nat) : Prop := (q.1.cls ≠ "java/lang/invoke/MethodHandle" ∧ q.1.cls ≠ "java/lang/invoke/VarHandle") ∧ Cond.instantiable q.1.cls q.2 ∈ tables_1 ∧ Cond.privateMethod q.1 ∈ tables_1 ∧ Cond.instanceMethod q.1 ∈ tables_1
theorem lw_p0 : lw_okq (⟨"LineFrames$StreamReader", "markAt", "(I)I"⟩, 14) := ⟨⟨by decide +kernel, by decide +kernel⟩, List.mem_of_getElem? (i := 210) (by decide +kernel), List.mem_of_getElem? (i := 371) (by decide +kernel), List.mem_of_getElem? (i := 372) (by decide +kernel)⟩
theorem lw_p1 : lw_okq (⟨"LineFrames$StreamReader", "isTooSoonOrLate", "(I)Z"⟩, 14) := ⟨⟨by decide +kernel, by decide +kernel⟩, List.mem_of_getElem? (i := 210) (by decide +kernel), List.mem_of_getElem? (i := 393) (by decide +kernel), List.mem_of_getElem? (i := 394) (by decide +kernel)⟩
theorem lw_p2 : lw_okq (⟨"LineFrames$StreamReader", "allScanned", "()Z"⟩, 14) := ⟨⟨by decide +kernel, by decide +kernel⟩, List.mem_of_getElem? (i := 210) (by decide +kernel), List.mem_of_getElem? (i := 397) (by decide +kernel), List.mem_of_getElem? (i := 398) (by decide +kernel)⟩
theorem lw_p3 : lw_okq (⟨"LineFrames$StreamReader", "end", "()V"⟩, 14) := ⟨⟨by decide +kernel, by decide +kernel⟩, List.mem_of_getElem? (i := 210) (by decide +kernel), List.mem_of_getElem? (i := 405) (by decide +kernel), List.mem_of_getElem? (i := 406) (by decide +kernel)⟩
theorem lw_p4 : lw_okq (⟨"LineFrames$StreamReader", "lengthAt", "(I)I"⟩, 14) := ⟨⟨by decide +kernel, by decide +kernel⟩, List.mem_of_getElem? (i := 210) (by decide +kernel), List.mem_of_getElem? (i := 413) (by decide +kernel), List.mem_of_getElem? (i := 414) (by decide +kernel)⟩
theorem lw_p5 : lw_okq (⟨"LineFrames$StreamReader", "take", "(III)I"⟩, 14) := ⟨⟨by decide +kernel, by decide +kernel⟩, List.mem_of_getElem? (i := 210) (by decide +kernel), List.mem_of_getElem? (i := 422) (by decide +kernel), List.mem_of_getElem? (i := 423) (by decide +kernel)⟩
theorem lw_p6 : lw_okq (⟨"LineFrames$StreamReader", "takeFrame", "(II)I"⟩, 14) := ⟨⟨by decide +kernel, by decide +kernel⟩, List.mem_of_getElem? (i := 210) (by decide +kernel), List.mem_of_getElem? (i := 426) (by decide +kernel), List.mem_of_getElem? (i := 427) (by decide +kernel)⟩
theorem lw_p7 : lw_okq (⟨"LineFrames$StreamReader", "takePresetsOrTable", "(II)I"⟩, 14) := ⟨⟨by decide +kernel, by decide +kernel⟩, List.mem_of_getElem? (i := 210) (by decide +kernel), List.mem_of_getElem? (i := 434) (by decide +kernel), List.mem_of_getElem? (i := 435) (by decide +kernel)⟩
theorem lw_p8 : lw_okq (⟨"LineFrames$StreamReader", "takePresets", "(II)I"⟩, 14) := ⟨⟨by decide +kernel, by decide +kernel⟩, List.mem_of_getElem? (i := 210) (by decide +kernel), List.mem_of_getElem? (i := 438) (by decide +kernel), List.mem_of_getElem? (i := 439) (by decide +kernel)⟩
theorem lw_p9 : lw_okq (⟨"LineFrames$StreamReader", "takeTable", "(II)I"⟩, 14) := ⟨⟨by decide +kernel, by decide +kernel⟩, List.mem_of_getElem? (i := 210) (by decide +kernel), List.mem_of_getElem? (i := 446) (by decide +kernel), List.mem_of_getElem? (i := 447) (by decide +kernel)⟩
theorem lw_p10 : lw_okq (⟨"LineFrames$StreamReader", "takeRestarts", "(II)I"⟩, 14) := ⟨⟨by decide +kernel, by decide +kernel⟩, List.mem_of_getElem? (i := 210) (by decide +kernel), List.mem_of_getElem? (i := 471) (by decide +kernel), List.mem_of_getElem? (i := 472) (by decide +kernel)⟩
theorem lw_p11 : lw_okq (⟨"LineFrames$StreamReader", "takeScan", "(II)I"⟩, 14) := ⟨⟨by decide +kernel, by decide +kernel⟩, List.mem_of_getElem? (i := 210) (by decide +kernel), List.mem_of_getElem? (i := 475) (by decide +kernel), List.mem_of_getElem? (i := 476) (by decide +kernel)⟩
theorem lw_p12 : lw_okq (⟨"LineFrames$StreamReader", "faultOfPart", "(IIII)I"⟩, 14) := ⟨⟨by decide +kernel, by decide +kernel⟩, List.mem_of_getElem? (i := 210) (by decide +kernel), List.mem_of_getElem? (i := 479) (by decide +kernel), List.mem_of_getElem? (i := 480) (by decide +kernel)⟩
theorem lw_p13 : lw_okq (⟨"LineFrames$StreamReader", "takeNote", "(III)I"⟩, 14) := ⟨⟨by decide +kernel, by decide +kernel⟩, List.mem_of_getElem? (i := 210) (by decide +kernel), List.mem_of_getElem? (i := 483) (by decide +kernel), List.mem_of_getElem? (i := 484) (by decide +kernel)⟩
theorem lw_p14 : lw_okq (⟨"LineFrames$StreamReader", "data", "()V"⟩, 14) := ⟨⟨by decide +kernel, by decide +kernel⟩, List.mem_of_getElem? (i := 210) (by decide +kernel), List.mem_of_getElem? (i := 501) (by decide +kernel), List.mem_of_getElem? (i := 502) (by decide +kernel)⟩
theorem lw_p15 : lw_okq (⟨"LineFrames$Model", "steps", "(I)I"⟩, 9) := ⟨⟨by decide +kernel, by decide +kernel⟩, List.mem_of_getElem? (i := 143) (by decide +kernel), List.mem_of_getElem? (i := 510) (by decide +kernel), List.mem_of_getElem? (i := 511) (by decide +kernel)⟩
def lw_privs_1 : List (MethodName × Nat) := [(⟨"LineFrames$StreamReader", "markAt", "(I)I"⟩, 14), (⟨"LineFrames$StreamReader", "isTooSoonOrLate", "(I)Z"⟩, 14), (⟨"LineFrames$StreamReader", "allScanned", "()Z"⟩, 14), (⟨"LineFrames$StreamReader", "end", "()V"⟩, 14), (⟨"LineFrames$StreamReader", "lengthAt", "(I)I"⟩, 14), (⟨"LineFrames$StreamReader", "take", "(III)I"⟩, 14), (⟨"LineFrames$StreamReader", "takeFrame", "(II)I"⟩, 14), (⟨"LineFrames$StreamReader", "takePresetsOrTable", "(II)I"⟩, 14), (⟨"LineFrames$StreamReader", "takePresets", "(II)I"⟩, 14), (⟨"LineFrames$StreamReader", "takeTable", "(II)I"⟩, 14), (⟨"LineFrames$StreamReader", "takeRestarts", "(II)I"⟩, 14), (⟨"LineFrames$StreamReader", "takeScan", "(II)I"⟩, 14), (⟨"LineFrames$StreamReader", "faultOfPart", "(IIII)I"⟩, 14), (⟨"LineFrames$StreamReader", "takeNote", "(III)I"⟩, 14), (⟨"LineFrames$StreamReader", "data", "()V"⟩, 14), (⟨"LineFrames$Model", "steps", "(I)I"⟩, 9)]
theorem lw_r1 : ∀ q ∈ lw_privs_1, lw_okq q := List.forall_mem_cons.mpr ⟨lw_p0, List.forall_mem_cons.mpr ⟨lw_p1, List.forall_mem_cons.mpr ⟨lw_p2, List.forall_mem_cons.mpr ⟨lw_p3, List.forall_mem_cons.mpr ⟨lw_p4, List.forall_mem_cons.mpr ⟨lw_p5, List.forall_mem_cons.mpr ⟨lw_p6, List.forall_mem_cons.mpr ⟨lw_p7, List.forall_mem_cons.mpr ⟨lw_p8, List.forall_mem_cons.mpr ⟨lw_p9, List.forall_mem_cons.mpr ⟨lw_p10, List.forall_mem_cons.mpr ⟨lw_p11, List.forall_mem_cons.mpr ⟨lw_p12, List.forall_mem_cons.mpr ⟨lw_p13, List.forall_mem_cons.mpr ⟨lw_p14, List.forall_mem_cons.mpr ⟨lw_p15, fun _ h => absurd h List.not_mem_nil⟩⟩⟩⟩⟩⟩⟩⟩⟩⟩⟩⟩⟩⟩⟩⟩
theorem lw_p16 : lw_okq (⟨"LineFrames$StreamReader", "passRestart", "(I)V"⟩, 14) := ⟨⟨by decide +kernel, by decide +kernel⟩, List.mem_of_getElem? (i := 210) (by decide +kernel), List.mem_of_getElem? (i := 524) (by decide +kernel), List.mem_of_getElem? (i := 525) (by decide +kernel)⟩
theorem lw_p17 : lw_okq (⟨"LineFrames$StreamReader", "takeRow", "(IZ)V"⟩, 14) := ⟨⟨by decide +kernel, by decide +kernel⟩, List.mem_of_getElem? (i := 210) (by decide +kernel), List.mem_of_getElem? (i := 541) (by decide +kernel), List.mem_of_getElem? (i := 542) (by decide +kernel)⟩
theorem lw_p18 : lw_okq (⟨"LineFrames$BitSource", "bits", "(I)I"⟩, 5) := ⟨⟨by decide +kernel, by decide +kernel⟩, List.mem_of_getElem? (i := 235) (by decide +kernel), List.mem_of_getElem? (i := 562) (by decide +kernel), List.mem_of_getElem? (i := 563) (by decide +kernel)⟩
theorem lw_p19 : lw_okq (⟨"LineFrames$BitSource", "fetch", "()V"⟩, 5) := ⟨⟨by decide +kernel, by decide +kernel⟩, List.mem_of_getElem? (i := 235) (by decide +kernel), List.mem_of_getElem? (i := 567) (by decide +kernel), List.mem_of_getElem? (i := 568) (by decide +kernel)⟩
theorem lw_p20 : lw_okq (⟨"LineFrames$Model", "toSample", "(I)I"⟩, 9) := ⟨⟨by decide +kernel, by decide +kernel⟩, List.mem_of_getElem? (i := 143) (by decide +kernel), List.mem_of_getElem? (i := 576) (by decide +kernel), List.mem_of_getElem? (i := 577) (by decide +kernel)⟩
theorem lw_p21 : lw_okq (⟨"LineFrames$Model", "learn", "(II)V"⟩, 9) := ⟨⟨by decide +kernel, by decide +kernel⟩, List.mem_of_getElem? (i := 143) (by decide +kernel), List.mem_of_getElem? (i := 581) (by decide +kernel), List.mem_of_getElem? (i := 582) (by decide +kernel)⟩
theorem lw_p22 : lw_okq (⟨"LineFrames$StreamReader", "endScan", "()V"⟩, 14) := ⟨⟨by decide +kernel, by decide +kernel⟩, List.mem_of_getElem? (i := 210) (by decide +kernel), List.mem_of_getElem? (i := 588) (by decide +kernel), List.mem_of_getElem? (i := 589) (by decide +kernel)⟩
theorem lw_p23 : lw_okq (⟨"java/lang/Throwable", "fillInStackTrace", "(I)Ljava/lang/Throwable;"⟩, 6) := ⟨⟨by decide +kernel, by decide +kernel⟩, List.mem_of_getElem? (i := 668) (by decide +kernel), List.mem_of_getElem? (i := 666) (by decide +kernel), List.mem_of_getElem? (i := 667) (by decide +kernel)⟩
theorem lw_p24 : lw_okq (⟨"LineFrames", "wantPicture", "()V"⟩, 6) := ⟨⟨by decide +kernel, by decide +kernel⟩, List.mem_of_getElem? (i := 22) (by decide +kernel), List.mem_of_getElem? (i := 709) (by decide +kernel), List.mem_of_getElem? (i := 710) (by decide +kernel)⟩
theorem lw_p25 : lw_okq (⟨"LineFrames$StreamWriter", "mark", "(I)V"⟩, 4) := ⟨⟨by decide +kernel, by decide +kernel⟩, List.mem_of_getElem? (i := 137) (by decide +kernel), List.mem_of_getElem? (i := 848) (by decide +kernel), List.mem_of_getElem? (i := 849) (by decide +kernel)⟩
theorem lw_p26 : lw_okq (⟨"LineFrames$StreamWriter", "addNotes", "()V"⟩, 4) := ⟨⟨by decide +kernel, by decide +kernel⟩, List.mem_of_getElem? (i := 137) (by decide +kernel), List.mem_of_getElem? (i := 856) (by decide +kernel), List.mem_of_getElem? (i := 857) (by decide +kernel)⟩
theorem lw_p27 : lw_okq (⟨"LineFrames$StreamWriter", "segment", "(II)V"⟩, 4) := ⟨⟨by decide +kernel, by decide +kernel⟩, List.mem_of_getElem? (i := 137) (by decide +kernel), List.mem_of_getElem? (i := 866) (by decide +kernel), List.mem_of_getElem? (i := 867) (by decide +kernel)⟩
theorem lw_p28 : lw_okq (⟨"LineFrames$StreamWriter", "addFrame", "()V"⟩, 4) := ⟨⟨by decide +kernel, by decide +kernel⟩, List.mem_of_getElem? (i := 137) (by decide +kernel), List.mem_of_getElem? (i := 879) (by decide +kernel), List.mem_of_getElem? (i := 880) (by decide +kernel)⟩
theorem lw_p29 : lw_okq (⟨"LineFrames$StreamWriter", "addPresets", "()V"⟩, 4) := ⟨⟨by decide +kernel, by decide +kernel⟩, List.mem_of_getElem? (i := 137) (by decide +kernel), List.mem_of_getElem? (i := 883) (by decide +kernel), List.mem_of_getElem? (i := 884) (by decide +kernel)⟩
theorem lw_p30 : lw_okq (⟨"LineFrames$StreamWriter", "addTables", "()V"⟩, 4) := ⟨⟨by decide +kernel, by decide +kernel⟩, List.mem_of_getElem? (i := 137) (by decide +kernel), List.mem_of_getElem? (i := 888) (by decide +kernel), List.mem_of_getElem? (i := 889) (by decide +kernel)⟩
theorem lw_p31 : lw_okq (⟨"LineFrames$StreamWriter", "addRestarts", "()V"⟩, 4) := ⟨⟨by decide +kernel, by decide +kernel⟩, List.mem_of_getElem? (i := 137) (by decide +kernel), List.mem_of_getElem? (i := 895) (by decide +kernel), List.mem_of_getElem? (i := 896) (by decide +kernel)⟩
def lw_privs_2 : List (MethodName × Nat) := [(⟨"LineFrames$StreamReader", "passRestart", "(I)V"⟩, 14), (⟨"LineFrames$StreamReader", "takeRow", "(IZ)V"⟩, 14), (⟨"LineFrames$BitSource", "bits", "(I)I"⟩, 5), (⟨"LineFrames$BitSource", "fetch", "()V"⟩, 5), (⟨"LineFrames$Model", "toSample", "(I)I"⟩, 9), (⟨"LineFrames$Model", "learn", "(II)V"⟩, 9), (⟨"LineFrames$StreamReader", "endScan", "()V"⟩, 14), (⟨"java/lang/Throwable", "fillInStackTrace", "(I)Ljava/lang/Throwable;"⟩, 6), (⟨"LineFrames", "wantPicture", "()V"⟩, 6), (⟨"LineFrames$StreamWriter", "mark", "(I)V"⟩, 4), (⟨"LineFrames$StreamWriter", "addNotes", "()V"⟩, 4), (⟨"LineFrames$StreamWriter", "segment", "(II)V"⟩, 4), (⟨"LineFrames$StreamWriter", "addFrame", "()V"⟩, 4), (⟨"LineFrames$StreamWriter", "addPresets", "()V"⟩, 4), (⟨"LineFrames$StreamWriter", "addTables", "()V"⟩, 4), (⟨"LineFrames$StreamWriter", "addRestarts", "()V"⟩, 4)]
theorem lw_r2 : ∀ q ∈ lw_privs_2, lw_okq q := List.forall_mem_cons.mpr ⟨lw_p16, List.forall_mem_cons.mpr ⟨lw_p17, List.forall_mem_cons.mpr ⟨lw_p18, List.forall_mem_cons.mpr ⟨lw_p19, List.forall_mem_cons.mpr ⟨lw_p20, List.forall_mem_cons.mpr ⟨lw_p21, List.forall_mem_cons.mpr ⟨lw_p22, List.forall_mem_cons.mpr ⟨lw_p23, List.forall_mem_cons.mpr ⟨lw_p24, List.forall_mem_cons.mpr ⟨lw_p25, List.forall_mem_cons.mpr ⟨lw_p26, List.forall_mem_cons.mpr ⟨lw_p27, List.forall_mem_cons.mpr ⟨lw_p28, List.forall_mem_cons.mpr ⟨lw_p29, List.forall_mem_cons.mpr ⟨lw_p30, List.forall_mem_cons.mpr ⟨lw_p31, fun _ h => absurd h List.not_mem_nil⟩⟩⟩⟩⟩⟩⟩⟩⟩⟩⟩⟩⟩⟩⟩⟩
theorem lw_p32 : lw_okq (⟨"LineFrames$StreamWriter", "scan", "(IIII)V"⟩, 4) := ⟨⟨by decide +kernel, by decide +kernel⟩, List.mem_of_getElem? (i := 137) (by decide +kernel), List.mem_of_getElem? (i := 899) (by decide +kernel), List.mem_of_getElem? (i := 900) (by decide +kernel)⟩
theorem lw_p33 : lw_okq (⟨"LineFrames$StreamWriter", "addScanHead", "(IIII)V"⟩, 4) := ⟨⟨by decide +kernel, by decide +kernel⟩, List.mem_of_getElem? (i := 137) (by decide +kernel), List.mem_of_getElem? (i := 903) (by decide +kernel), List.mem_of_getElem? (i := 904) (by decide +kernel)⟩
theorem lw_p34 : lw_okq (⟨"LineFrames$StreamWriter", "addRow", "(IIIIZ)V"⟩, 4) := ⟨⟨by decide +kernel, by decide +kernel⟩, List.mem_of_getElem? (i := 137) (by decide +kernel), List.mem_of_getElem? (i := 914) (by decide +kernel), List.mem_of_getElem? (i := 915) (by decide +kernel)⟩
theorem lw_p35 : lw_okq (⟨"LineFrames$StreamWriter", "addSample", "(IIIZ)V"⟩, 4) := ⟨⟨by decide +kernel, by decide +kernel⟩, List.mem_of_getElem? (i := 137) (by decide +kernel), List.mem_of_getElem? (i := 918) (by decide +kernel), List.mem_of_getElem? (i := 919) (by decide +kernel)⟩
theorem lw_p36 : lw_okq (⟨"LineFrames$BitSink", "bits", "(II)V"⟩, 3) := ⟨⟨by decide +kernel, by decide +kernel⟩, List.mem_of_getElem? (i := 181) (by decide +kernel), List.mem_of_getElem? (i := 933) (by decide +kernel), List.mem_of_getElem? (i := 934) (by decide +kernel)⟩
theorem lw_p37 : lw_okq (⟨"LineFrames", "wantReading", "()V"⟩, 6) := ⟨⟨by decide +kernel, by decide +kernel⟩, List.mem_of_getElem? (i := 22) (by decide +kernel), List.mem_of_getElem? (i := 988) (by decide +kernel), List.mem_of_getElem? (i := 989) (by decide +kernel)⟩
theorem lw_p38 : lw_okq (⟨"LineFramesModel", "fails", "(I)I"⟩, 65) := ⟨⟨by decide +kernel, by decide +kernel⟩, List.mem_of_getElem? (i := 1010) (by decide +kernel), List.mem_of_getElem? (i := 1224) (by decide +kernel), List.mem_of_getElem? (i := 1225) (by decide +kernel)⟩
theorem lw_p39 : lw_okq (⟨"LineFramesModel", "isComponent", "(I)Z"⟩, 65) := ⟨⟨by decide +kernel, by decide +kernel⟩, List.mem_of_getElem? (i := 1010) (by decide +kernel), List.mem_of_getElem? (i := 1232) (by decide +kernel), List.mem_of_getElem? (i := 1233) (by decide +kernel)⟩
theorem lw_p40 : lw_okq (⟨"LineFramesModel", "lay", "(I)V"⟩, 65) := ⟨⟨by decide +kernel, by decide +kernel⟩, List.mem_of_getElem? (i := 1010) (by decide +kernel), List.mem_of_getElem? (i := 1260) (by decide +kernel), List.mem_of_getElem? (i := 1261) (by decide +kernel)⟩
theorem lw_p41 : lw_okq (⟨"LineFramesModel", "mark", "(II)V"⟩, 65) := ⟨⟨by decide +kernel, by decide +kernel⟩, List.mem_of_getElem? (i := 1010) (by decide +kernel), List.mem_of_getElem? (i := 1264) (by decide +kernel), List.mem_of_getElem? (i := 1265) (by decide +kernel)⟩
theorem lw_p42 : lw_okq (⟨"LineFramesModel", "layWide", "(I)V"⟩, 65) := ⟨⟨by decide +kernel, by decide +kernel⟩, List.mem_of_getElem? (i := 1010) (by decide +kernel), List.mem_of_getElem? (i := 1268) (by decide +kernel), List.mem_of_getElem? (i := 1269) (by decide +kernel)⟩
theorem lw_p43 : lw_okq (⟨"LineFramesModel", "scan", "(III)V"⟩, 65) := ⟨⟨by decide +kernel, by decide +kernel⟩, List.mem_of_getElem? (i := 1010) (by decide +kernel), List.mem_of_getElem? (i := 1272) (by decide +kernel), List.mem_of_getElem? (i := 1273) (by decide +kernel)⟩
theorem lw_p44 : lw_okq (⟨"LineFramesModel", "data", "(III)V"⟩, 65) := ⟨⟨by decide +kernel, by decide +kernel⟩, List.mem_of_getElem? (i := 1010) (by decide +kernel), List.mem_of_getElem? (i := 1276) (by decide +kernel), List.mem_of_getElem? (i := 1277) (by decide +kernel)⟩
theorem lw_p45 : lw_okq (⟨"LineFramesModel", "begin", "(II)V"⟩, 65) := ⟨⟨by decide +kernel, by decide +kernel⟩, List.mem_of_getElem? (i := 1010) (by decide +kernel), List.mem_of_getElem? (i := 1280) (by decide +kernel), List.mem_of_getElem? (i := 1281) (by decide +kernel)⟩
theorem lw_p46 : lw_okq (⟨"LineFramesModel", "tell", "(III)V"⟩, 65) := ⟨⟨by decide +kernel, by decide +kernel⟩, List.mem_of_getElem? (i := 1010) (by decide +kernel), List.mem_of_getElem? (i := 1284) (by decide +kernel), List.mem_of_getElem? (i := 1285) (by decide +kernel)⟩
theorem lw_p47 : lw_okq (⟨"LineFramesModel", "foretold", "(III)I"⟩, 65) := ⟨⟨by decide +kernel, by decide +kernel⟩, List.mem_of_getElem? (i := 1010) (by decide +kernel), List.mem_of_getElem? (i := 1288) (by decide +kernel), List.mem_of_getElem? (i := 1289) (by decide +kernel)⟩
def lw_privs_3 : List (MethodName × Nat) := [(⟨"LineFrames$StreamWriter", "scan", "(IIII)V"⟩, 4), (⟨"LineFrames$StreamWriter", "addScanHead", "(IIII)V"⟩, 4), (⟨"LineFrames$StreamWriter", "addRow", "(IIIIZ)V"⟩, 4), (⟨"LineFrames$StreamWriter", "addSample", "(IIIZ)V"⟩, 4), (⟨"LineFrames$BitSink", "bits", "(II)V"⟩, 3), (⟨"LineFrames", "wantReading", "()V"⟩, 6), (⟨"LineFramesModel", "fails", "(I)I"⟩, 65), (⟨"LineFramesModel", "isComponent", "(I)Z"⟩, 65), (⟨"LineFramesModel", "lay", "(I)V"⟩, 65), (⟨"LineFramesModel", "mark", "(II)V"⟩, 65), (⟨"LineFramesModel", "layWide", "(I)V"⟩, 65), (⟨"LineFramesModel", "scan", "(III)V"⟩, 65), (⟨"LineFramesModel", "data", "(III)V"⟩, 65), (⟨"LineFramesModel", "begin", "(II)V"⟩, 65), (⟨"LineFramesModel", "tell", "(III)V"⟩, 65), (⟨"LineFramesModel", "foretold", "(III)I"⟩, 65)]
theorem lw_r3 : ∀ q ∈ lw_privs_3, lw_okq q := List.forall_mem_cons.mpr ⟨lw_p32, List.forall_mem_cons.mpr ⟨lw_p33, List.forall_mem_cons.mpr ⟨lw_p34, List.forall_mem_cons.mpr ⟨lw_p35, List.forall_mem_cons.mpr ⟨lw_p36, List.forall_mem_cons.mpr ⟨lw_p37, List.forall_mem_cons.mpr ⟨lw_p38, List.forall_mem_cons.mpr ⟨lw_p39, List.forall_mem_cons.mpr ⟨lw_p40, List.forall_mem_cons.mpr ⟨lw_p41, List.forall_mem_cons.mpr ⟨lw_p42, List.forall_mem_cons.mpr ⟨lw_p43, List.forall_mem_cons.mpr ⟨lw_p44, List.forall_mem_cons.mpr ⟨lw_p45, List.forall_mem_cons.mpr ⟨lw_p46, List.forall_mem_cons.mpr ⟨lw_p47, fun _ h => absurd h List.not_mem_nil⟩⟩⟩⟩⟩⟩⟩⟩⟩⟩⟩⟩⟩⟩⟩⟩
theorem lw_p48 : lw_okq (⟨"LineFramesModel", "step", "()I"⟩, 65) := ⟨⟨by decide +kernel, by decide +kernel⟩, List.mem_of_getElem? (i := 1010) (by decide +kernel), List.mem_of_getElem? (i := 1292) (by decide +kernel), List.mem_of_getElem? (i := 1293) (by decide +kernel)⟩
theorem lw_p49 : lw_okq (⟨"LineFramesModel", "clipped", "(I)I"⟩, 65) := ⟨⟨by decide +kernel, by decide +kernel⟩, List.mem_of_getElem? (i := 1010) (by decide +kernel), List.mem_of_getElem? (i := 1296) (by decide +kernel), List.mem_of_getElem? (i := 1297) (by decide +kernel)⟩
theorem lw_p50 : lw_okq (⟨"LineFramesModel", "range", "()I"⟩, 65) := ⟨⟨by decide +kernel, by decide +kernel⟩, List.mem_of_getElem? (i := 1010) (by decide +kernel), List.mem_of_getElem? (i := 1300) (by decide +kernel), List.mem_of_getElem? (i := 1301) (by decide +kernel)⟩
theorem lw_p51 : lw_okq (⟨"LineFramesModel", "lengthOf", "(I)I"⟩, 65) := ⟨⟨by decide +kernel, by decide +kernel⟩, List.mem_of_getElem? (i := 1010) (by decide +kernel), List.mem_of_getElem? (i := 1304) (by decide +kernel), List.mem_of_getElem? (i := 1305) (by decide +kernel)⟩
theorem lw_p52 : lw_okq (⟨"LineFramesModel", "bit", "(I)V"⟩, 65) := ⟨⟨by decide +kernel, by decide +kernel⟩, List.mem_of_getElem? (i := 1010) (by decide +kernel), List.mem_of_getElem? (i := 1308) (by decide +kernel), List.mem_of_getElem? (i := 1309) (by decide +kernel)⟩
theorem lw_p53 : lw_okq (⟨"LineFramesModel", "lowBits", "(II)V"⟩, 65) := ⟨⟨by decide +kernel, by decide +kernel⟩, List.mem_of_getElem? (i := 1010) (by decide +kernel), List.mem_of_getElem? (i := 1312) (by decide +kernel), List.mem_of_getElem? (i := 1313) (by decide +kernel)⟩
theorem lw_p54 : lw_okq (⟨"LineFramesModel", "count", "(III)V"⟩, 65) := ⟨⟨by decide +kernel, by decide +kernel⟩, List.mem_of_getElem? (i := 1010) (by decide +kernel), List.mem_of_getElem? (i := 1316) (by decide +kernel), List.mem_of_getElem? (i := 1317) (by decide +kernel)⟩
theorem lw_p55 : lw_okq (⟨"LineFramesModel", "fill", "()V"⟩, 65) := ⟨⟨by decide +kernel, by decide +kernel⟩, List.mem_of_getElem? (i := 1010) (by decide +kernel), List.mem_of_getElem? (i := 1320) (by decide +kernel), List.mem_of_getElem? (i := 1321) (by decide +kernel)⟩
theorem lw_p56 : lw_okq (⟨"LineFramesModel", "clear", "()V"⟩, 65) := ⟨⟨by decide +kernel, by decide +kernel⟩, List.mem_of_getElem? (i := 1010) (by decide +kernel), List.mem_of_getElem? (i := 1348) (by decide +kernel), List.mem_of_getElem? (i := 1349) (by decide +kernel)⟩
theorem lw_p57 : lw_okq (⟨"LineFramesModel", "isMark", "()Z"⟩, 65) := ⟨⟨by decide +kernel, by decide +kernel⟩, List.mem_of_getElem? (i := 1010) (by decide +kernel), List.mem_of_getElem? (i := 1352) (by decide +kernel), List.mem_of_getElem? (i := 1353) (by decide +kernel)⟩
theorem lw_p58 : lw_okq (⟨"LineFramesModel", "broken", "(II)Z"⟩, 65) := ⟨⟨by decide +kernel, by decide +kernel⟩, List.mem_of_getElem? (i := 1010) (by decide +kernel), List.mem_of_getElem? (i := 1356) (by decide +kernel), List.mem_of_getElem? (i := 1357) (by decide +kernel)⟩
theorem lw_p59 : lw_okq (⟨"LineFramesModel", "takeSegment", "()V"⟩, 65) := ⟨⟨by decide +kernel, by decide +kernel⟩, List.mem_of_getElem? (i := 1010) (by decide +kernel), List.mem_of_getElem? (i := 1360) (by decide +kernel), List.mem_of_getElem? (i := 1361) (by decide +kernel)⟩
theorem lw_p60 : lw_okq (⟨"LineFramesModel", "isSegment", "()Z"⟩, 65) := ⟨⟨by decide +kernel, by decide +kernel⟩, List.mem_of_getElem? (i := 1010) (by decide +kernel), List.mem_of_getElem? (i := 1364) (by decide +kernel), List.mem_of_getElem? (i := 1365) (by decide +kernel)⟩
theorem lw_p61 : lw_okq (⟨"LineFramesModel", "wide", "(I)I"⟩, 65) := ⟨⟨by decide +kernel, by decide +kernel⟩, List.mem_of_getElem? (i := 1010) (by decide +kernel), List.mem_of_getElem? (i := 1368) (by decide +kernel), List.mem_of_getElem? (i := 1369) (by decide +kernel)⟩
theorem lw_p62 : lw_okq (⟨"LineFramesModel", "isFrame", "()Z"⟩, 65) := ⟨⟨by decide +kernel, by decide +kernel⟩, List.mem_of_getElem? (i := 1010) (by decide +kernel), List.mem_of_getElem? (i := 1372) (by decide +kernel), List.mem_of_getElem? (i := 1373) (by decide +kernel)⟩
theorem lw_p63 : lw_okq (⟨"LineFramesModel", "isPreset", "()Z"⟩, 65) := ⟨⟨by decide +kernel, by decide +kernel⟩, List.mem_of_getElem? (i := 1010) (by decide +kernel), List.mem_of_getElem? (i := 1376) (by decide +kernel), List.mem_of_getElem? (i := 1377) (by decide +kernel)⟩
def lw_privs_4 : List (MethodName × Nat) := [(⟨"LineFramesModel", "step", "()I"⟩, 65), (⟨"LineFramesModel", "clipped", "(I)I"⟩, 65), (⟨"LineFramesModel", "range", "()I"⟩, 65), (⟨"LineFramesModel", "lengthOf", "(I)I"⟩, 65), (⟨"LineFramesModel", "bit", "(I)V"⟩, 65), (⟨"LineFramesModel", "lowBits", "(II)V"⟩, 65), (⟨"LineFramesModel", "count", "(III)V"⟩, 65), (⟨"LineFramesModel", "fill", "()V"⟩, 65), (⟨"LineFramesModel", "clear", "()V"⟩, 65), (⟨"LineFramesModel", "isMark", "()Z"⟩, 65), (⟨"LineFramesModel", "broken", "(II)Z"⟩, 65), (⟨"LineFramesModel", "takeSegment", "()V"⟩, 65), (⟨"LineFramesModel", "isSegment", "()Z"⟩, 65), (⟨"LineFramesModel", "wide", "(I)I"⟩, 65), (⟨"LineFramesModel", "isFrame", "()Z"⟩, 65), (⟨"LineFramesModel", "isPreset", "()Z"⟩, 65)]
theorem lw_r4 : ∀ q ∈ lw_privs_4, lw_okq q := List.forall_mem_cons.mpr ⟨lw_p48, List.forall_mem_cons.mpr ⟨lw_p49, List.forall_mem_cons.mpr ⟨lw_p50, List.forall_mem_cons.mpr ⟨lw_p51, List.forall_mem_cons.mpr ⟨lw_p52, List.forall_mem_cons.mpr ⟨lw_p53, List.forall_mem_cons.mpr ⟨lw_p54, List.forall_mem_cons.mpr ⟨lw_p55, List.forall_mem_cons.mpr ⟨lw_p56, List.forall_mem_cons.mpr ⟨lw_p57, List.forall_mem_cons.mpr ⟨lw_p58, List.forall_mem_cons.mpr ⟨lw_p59, List.forall_mem_cons.mpr ⟨lw_p60, List.forall_mem_cons.mpr ⟨lw_p61, List.forall_mem_cons.mpr ⟨lw_p62, List.forall_mem_cons.mpr ⟨lw_p63, fun _ h => absurd h List.not_mem_nil⟩⟩⟩⟩⟩⟩⟩⟩⟩⟩⟩⟩⟩⟩⟩⟩
theorem lw_p64 : lw_okq (⟨"LineFramesModel", "isRestart", "()Z"⟩, 65) := ⟨⟨by decide +kernel, by decide +kernel⟩, List.mem_of_getElem? (i := 1010) (by decide +kernel), List.mem_of_getElem? (i := 1380) (by decide +kernel), List.mem_of_getElem? (i := 1381) (by decide +kernel)⟩
theorem lw_p65 : lw_okq (⟨"LineFramesModel", "isScan", "()Z"⟩, 65) := ⟨⟨by decide +kernel, by decide +kernel⟩, List.mem_of_getElem? (i := 1010) (by decide +kernel), List.mem_of_getElem? (i := 1384) (by decide +kernel), List.mem_of_getElem? (i := 1385) (by decide +kernel)⟩
theorem lw_p66 : lw_okq (⟨"LineFramesModel", "isNote", "()Z"⟩, 65) := ⟨⟨by decide +kernel, by decide +kernel⟩, List.mem_of_getElem? (i := 1010) (by decide +kernel), List.mem_of_getElem? (i := 1388) (by decide +kernel), List.mem_of_getElem? (i := 1389) (by decide +kernel)⟩
theorem lw_p67 : lw_okq (⟨"LineFramesModel", "takeScan", "()V"⟩, 65) := ⟨⟨by decide +kernel, by decide +kernel⟩, List.mem_of_getElem? (i := 1010) (by decide +kernel), List.mem_of_getElem? (i := 1392) (by decide +kernel), List.mem_of_getElem? (i := 1393) (by decide +kernel)⟩
theorem lw_p68 : lw_okq (⟨"LineFramesModel", "hearData", "(II)V"⟩, 65) := ⟨⟨by decide +kernel, by decide +kernel⟩, List.mem_of_getElem? (i := 1010) (by decide +kernel), List.mem_of_getElem? (i := 1396) (by decide +kernel), List.mem_of_getElem? (i := 1397) (by decide +kernel)⟩
theorem lw_p69 : lw_okq (⟨"LineFramesModel", "hearSample", "(III)V"⟩, 65) := ⟨⟨by decide +kernel, by decide +kernel⟩, List.mem_of_getElem? (i := 1010) (by decide +kernel), List.mem_of_getElem? (i := 1400) (by decide +kernel), List.mem_of_getElem? (i := 1401) (by decide +kernel)⟩
theorem lw_p70 : lw_okq (⟨"LineFramesModel", "hear", "()I"⟩, 65) := ⟨⟨by decide +kernel, by decide +kernel⟩, List.mem_of_getElem? (i := 1010) (by decide +kernel), List.mem_of_getElem? (i := 1404) (by decide +kernel), List.mem_of_getElem? (i := 1405) (by decide +kernel)⟩
theorem lw_p71 : lw_okq (⟨"LineFramesModel", "hearBits", "(I)I"⟩, 65) := ⟨⟨by decide +kernel, by decide +kernel⟩, List.mem_of_getElem? (i := 1010) (by decide +kernel), List.mem_of_getElem? (i := 1408) (by decide +kernel), List.mem_of_getElem? (i := 1409) (by decide +kernel)⟩
theorem lw_p72 : lw_okq (⟨"LineFramesModel", "hearEnd", "()V"⟩, 65) := ⟨⟨by decide +kernel, by decide +kernel⟩, List.mem_of_getElem? (i := 1010) (by decide +kernel), List.mem_of_getElem? (i := 1412) (by decide +kernel), List.mem_of_getElem? (i := 1413) (by decide +kernel)⟩
theorem lw_p73 : lw_okq (⟨"LineFramesModel", "hearRestart", "(II)V"⟩, 65) := ⟨⟨by decide +kernel, by decide +kernel⟩, List.mem_of_getElem? (i := 1010) (by decide +kernel), List.mem_of_getElem? (i := 1416) (by decide +kernel), List.mem_of_getElem? (i := 1417) (by decide +kernel)⟩
theorem lw_p74 : lw_okq (⟨"LineFramesModel", "keep", "()V"⟩, 65) := ⟨⟨by decide +kernel, by decide +kernel⟩, List.mem_of_getElem? (i := 1010) (by decide +kernel), List.mem_of_getElem? (i := 1420) (by decide +kernel), List.mem_of_getElem? (i := 1421) (by decide +kernel)⟩
def lw_privs_5 : List (MethodName × Nat) := [(⟨"LineFramesModel", "isRestart", "()Z"⟩, 65), (⟨"LineFramesModel", "isScan", "()Z"⟩, 65), (⟨"LineFramesModel", "isNote", "()Z"⟩, 65), (⟨"LineFramesModel", "takeScan", "()V"⟩, 65), (⟨"LineFramesModel", "hearData", "(II)V"⟩, 65), (⟨"LineFramesModel", "hearSample", "(III)V"⟩, 65), (⟨"LineFramesModel", "hear", "()I"⟩, 65), (⟨"LineFramesModel", "hearBits", "(I)I"⟩, 65), (⟨"LineFramesModel", "hearEnd", "()V"⟩, 65), (⟨"LineFramesModel", "hearRestart", "(II)V"⟩, 65), (⟨"LineFramesModel", "keep", "()V"⟩, 65)]
theorem lw_r5 : ∀ q ∈ lw_privs_5, lw_okq q := List.forall_mem_cons.mpr ⟨lw_p64, List.forall_mem_cons.mpr ⟨lw_p65, List.forall_mem_cons.mpr ⟨lw_p66, List.forall_mem_cons.mpr ⟨lw_p67, List.forall_mem_cons.mpr ⟨lw_p68, List.forall_mem_cons.mpr ⟨lw_p69, List.forall_mem_cons.mpr ⟨lw_p70, List.forall_mem_cons.mpr ⟨lw_p71, List.forall_mem_cons.mpr ⟨lw_p72, List.forall_mem_cons.mpr ⟨lw_p73, List.forall_mem_cons.mpr ⟨lw_p74, fun _ h => absurd h List.not_mem_nil⟩⟩⟩⟩⟩⟩⟩⟩⟩⟩⟩
def lw_privs : List (MethodName × Nat) := lw_privs_1 ++ (lw_privs_2 ++ (lw_privs_3 ++ (lw_privs_4 ++ (lw_privs_5))))
def lw_tbl : List Cond := k2_sels lw_privs ++ tables_1
theorem lw_privs_ok : ∀ q ∈ lw_privs, lw_okq q := by
  show ∀ q ∈ lw_privs_1 ++ (lw_privs_2 ++ (lw_privs_3 ++ (lw_privs_4 ++ (lw_privs_5)))), lw_okq q
  exact List.forall_mem_append.mpr ⟨lw_r1, List.forall_mem_append.mpr ⟨lw_r2, List.forall_mem_append.mpr ⟨lw_r3, List.forall_mem_append.mpr ⟨lw_r4, lw_r5⟩⟩⟩⟩
end
section
def RC0 : String := "LineFrames"
def TC0 : u_T := fun k => match k with
  | 0 => ("LineFrames", "turn", "I", true)
  | 1 => ("LineFrames", "made", "LLineFrames$Picture;", true)
  | 2 => ("LineFrames", "written", "LLineFrames$Bytes;", true)
  | 3 => ("LineFrames", "came", "LLineFrames$Bytes;", true)
  | 4 => ("LineFrames", "writer", "LLineFrames$StreamWriter;", true)
  | _ => ("LineFrames", "reader", "LLineFrames$StreamReader;", true)
def tyC0 : Nat → FieldType := fun k => match k with
  | 0 => .int
  | 1 => .object "LineFrames$Picture"
  | 2 => .object "LineFrames$Bytes"
  | 3 => .object "LineFrames$Bytes"
  | 4 => .object "LineFrames$StreamWriter"
  | _ => .object "LineFrames$StreamReader"
theorem nmC0 : ∀ a, a < 6 → ∀ b, b < 6 → a ≠ b → (TC0 a).2.1 ≠ (TC0 b).2.1 := by decide +kernel
theorem tyC0_ok : ∀ k, k < 6 → parseFieldDescriptor (TC0 k).2.2.1 = some (tyC0 k) := by decide +kernel
def RC1 : String := "LineFrames$BitSink"
def TC1 : u_T := fun k => match k with
  | 0 => ("LineFrames$BitSink", "out", "LLineFrames$Bytes;", true)
  | 1 => ("LineFrames$BitSink", "current", "I", false)
  | _ => ("LineFrames$BitSink", "free", "I", false)
def tyC1 : Nat → FieldType := fun k => match k with
  | 0 => .object "LineFrames$Bytes"
  | 1 => .int
  | _ => .int
theorem nmC1 : ∀ a, a < 3 → ∀ b, b < 3 → a ≠ b → (TC1 a).2.1 ≠ (TC1 b).2.1 := by decide +kernel
theorem tyC1_ok : ∀ k, k < 3 → parseFieldDescriptor (TC1 k).2.2.1 = some (tyC1 k) := by decide +kernel
def RC2 : String := "LineFrames$BitSource"
def TC2 : u_T := fun k => match k with
  | 0 => ("LineFrames$BitSource", "in", "LLineFrames$Bytes;", true)
  | 1 => ("LineFrames$BitSource", "fault", "LLineFrames$Fault;", true)
  | 2 => ("LineFrames$BitSource", "next", "I", false)
  | 3 => ("LineFrames$BitSource", "current", "I", false)
  | _ => ("LineFrames$BitSource", "left", "I", false)
def tyC2 : Nat → FieldType := fun k => match k with
  | 0 => .object "LineFrames$Bytes"
  | 1 => .object "LineFrames$Fault"
  | 2 => .int
  | 3 => .int
  | _ => .int
theorem nmC2 : ∀ a, a < 5 → ∀ b, b < 5 → a ≠ b → (TC2 a).2.1 ≠ (TC2 b).2.1 := by decide +kernel
theorem tyC2_ok : ∀ k, k < 5 → parseFieldDescriptor (TC2 k).2.2.1 = some (tyC2 k) := by decide +kernel
def RC3 : String := "LineFrames$Bytes"
def TC3 : u_T := fun k => match k with
  | 0 => ("LineFrames$Bytes", "cells", "[I", true)
  | _ => ("LineFrames$Bytes", "size", "I", false)
def tyC3 : Nat → FieldType := fun k => match k with
  | 0 => .array .int
  | _ => .int
theorem nmC3 : ∀ a, a < 2 → ∀ b, b < 2 → a ≠ b → (TC3 a).2.1 ≠ (TC3 b).2.1 := by decide +kernel
theorem tyC3_ok : ∀ k, k < 2 → parseFieldDescriptor (TC3 k).2.2.1 = some (tyC3 k) := by decide +kernel
def RC4 : String := "LineFrames$Fault"
def TC4 : u_T := fun k => match k with
  | 0 => ("LineFrames$Fault", "number", "I", false)
  | _ => ("LineFrames$Fault", "place", "I", false)
def tyC4 : Nat → FieldType := fun k => match k with
  | 0 => .int
  | _ => .int
theorem nmC4 : ∀ a, a < 2 → ∀ b, b < 2 → a ≠ b → (TC4 a).2.1 ≠ (TC4 b).2.1 := by decide +kernel
theorem tyC4_ok : ∀ k, k < 2 → parseFieldDescriptor (TC4 k).2.2.1 = some (tyC4 k) := by decide +kernel
def RC5 : String := "LineFrames$Model"
def TC5 : u_T := fun k => match k with
  | 0 => ("LineFrames$Model", "samples", "LLineFrames$Row;", true)
  | 1 => ("LineFrames$Model", "sums", "LLineFrames$Row;", true)
  | 2 => ("LineFrames$Model", "counts", "LLineFrames$Row;", true)
  | 3 => ("LineFrames$Model", "top", "I", false)
  | 4 => ("LineFrames$Model", "near", "I", false)
  | 5 => ("LineFrames$Model", "step", "I", false)
  | 6 => ("LineFrames$Model", "range", "I", false)
  | 7 => ("LineFrames$Model", "reset", "I", false)
  | _ => ("LineFrames$Model", "start", "I", false)
def tyC5 : Nat → FieldType := fun k => match k with
  | 0 => .object "LineFrames$Row"
  | 1 => .object "LineFrames$Row"
  | 2 => .object "LineFrames$Row"
  | 3 => .int
  | 4 => .int
  | 5 => .int
  | 6 => .int
  | 7 => .int
  | _ => .int
theorem nmC5 : ∀ a, a < 9 → ∀ b, b < 9 → a ≠ b → (TC5 a).2.1 ≠ (TC5 b).2.1 := by decide +kernel
theorem tyC5_ok : ∀ k, k < 9 → parseFieldDescriptor (TC5 k).2.2.1 = some (tyC5 k) := by decide +kernel
def RC6 : String := "LineFrames$Notes"
def TC6 : u_T := fun k => match k with
  | 0 => ("LineFrames$Notes", "kinds", "LLineFrames$Row;", true)
  | 1 => ("LineFrames$Notes", "sizes", "LLineFrames$Row;", true)
  | 2 => ("LineFrames$Notes", "cells", "LLineFrames$Row;", true)
  | _ => ("LineFrames$Notes", "count", "I", false)
def tyC6 : Nat → FieldType := fun k => match k with
  | 0 => .object "LineFrames$Row"
  | 1 => .object "LineFrames$Row"
  | 2 => .object "LineFrames$Row"
  | _ => .int
theorem nmC6 : ∀ a, a < 4 → ∀ b, b < 4 → a ≠ b → (TC6 a).2.1 ≠ (TC6 b).2.1 := by decide +kernel
theorem tyC6_ok : ∀ k, k < 4 → parseFieldDescriptor (TC6 k).2.2.1 = some (tyC6 k) := by decide +kernel
def RC7 : String := "LineFrames$Picture"
def TC7 : u_T := fun k => match k with
  | 0 => ("LineFrames$Picture", "samples", "LLineFrames$Row;", true)
  | 1 => ("LineFrames$Picture", "presets", "LLineFrames$Row;", true)
  | 2 => ("LineFrames$Picture", "tabled", "LLineFrames$Row;", true)
  | 3 => ("LineFrames$Picture", "numbers", "LLineFrames$Row;", true)
  | 4 => ("LineFrames$Picture", "notes", "LLineFrames$Notes;", true)
  | 5 => ("LineFrames$Picture", "width", "I", false)
  | 6 => ("LineFrames$Picture", "height", "I", false)
  | 7 => ("LineFrames$Picture", "bits", "I", false)
  | _ => ("LineFrames$Picture", "components", "I", false)
def tyC7 : Nat → FieldType := fun k => match k with
  | 0 => .object "LineFrames$Row"
  | 1 => .object "LineFrames$Row"
  | 2 => .object "LineFrames$Row"
  | 3 => .object "LineFrames$Row"
  | 4 => .object "LineFrames$Notes"
  | 5 => .int
  | 6 => .int
  | 7 => .int
  | _ => .int
theorem nmC7 : ∀ a, a < 9 → ∀ b, b < 9 → a ≠ b → (TC7 a).2.1 ≠ (TC7 b).2.1 := by decide +kernel
theorem tyC7_ok : ∀ k, k < 9 → parseFieldDescriptor (TC7 k).2.2.1 = some (tyC7 k) := by decide +kernel
def RC8 : String := "LineFrames$Row"
def TC8 : u_T := fun k => match k with
  | _ => ("LineFrames$Row", "cells", "[I", true)
def tyC8 : Nat → FieldType := fun k => match k with
  | _ => .array .int
theorem nmC8 : ∀ a, a < 1 → ∀ b, b < 1 → a ≠ b → (TC8 a).2.1 ≠ (TC8 b).2.1 := by decide +kernel
theorem tyC8_ok : ∀ k, k < 1 → parseFieldDescriptor (TC8 k).2.2.1 = some (tyC8 k) := by decide +kernel
def RC9 : String := "LineFrames$StreamReader"
def TC9 : u_T := fun k => match k with
  | 0 => ("LineFrames$StreamReader", "in", "LLineFrames$Bytes;", true)
  | 1 => ("LineFrames$StreamReader", "got", "LLineFrames$Picture;", true)
  | 2 => ("LineFrames$StreamReader", "fault", "LLineFrames$Fault;", true)
  | 3 => ("LineFrames$StreamReader", "bits", "LLineFrames$BitSource;", true)
  | 4 => ("LineFrames$StreamReader", "model", "LLineFrames$Model;", true)
  | 5 => ("LineFrames$StreamReader", "scanned", "LLineFrames$Row;", true)
  | 6 => ("LineFrames$StreamReader", "next", "I", false)
  | 7 => ("LineFrames$StreamReader", "whole", "Z", false)
  | 8 => ("LineFrames$StreamReader", "first", "I", false)
  | 9 => ("LineFrames$StreamReader", "count", "I", false)
  | 10 => ("LineFrames$StreamReader", "near", "I", false)
  | 11 => ("LineFrames$StreamReader", "turn", "I", false)
  | 12 => ("LineFrames$StreamReader", "restarts", "I", false)
  | _ => ("LineFrames$StreamReader", "scans", "I", false)
def tyC9 : Nat → FieldType := fun k => match k with
  | 0 => .object "LineFrames$Bytes"
  | 1 => .object "LineFrames$Picture"
  | 2 => .object "LineFrames$Fault"
  | 3 => .object "LineFrames$BitSource"
  | 4 => .object "LineFrames$Model"
  | 5 => .object "LineFrames$Row"
  | 6 => .int
  | 7 => .boolean
  | 8 => .int
  | 9 => .int
  | 10 => .int
  | 11 => .int
  | 12 => .int
  | _ => .int
theorem nmC9 : ∀ a, a < 14 → ∀ b, b < 14 → a ≠ b → (TC9 a).2.1 ≠ (TC9 b).2.1 := by decide +kernel
theorem tyC9_ok : ∀ k, k < 14 → parseFieldDescriptor (TC9 k).2.2.1 = some (tyC9 k) := by decide +kernel
def RC10 : String := "LineFrames$StreamWriter"
def TC10 : u_T := fun k => match k with
  | 0 => ("LineFrames$StreamWriter", "picture", "LLineFrames$Picture;", true)
  | 1 => ("LineFrames$StreamWriter", "out", "LLineFrames$Bytes;", true)
  | 2 => ("LineFrames$StreamWriter", "model", "LLineFrames$Model;", true)
  | _ => ("LineFrames$StreamWriter", "bits", "LLineFrames$BitSink;", true)
def tyC10 : Nat → FieldType := fun k => match k with
  | 0 => .object "LineFrames$Picture"
  | 1 => .object "LineFrames$Bytes"
  | 2 => .object "LineFrames$Model"
  | _ => .object "LineFrames$BitSink"
theorem nmC10 : ∀ a, a < 4 → ∀ b, b < 4 → a ≠ b → (TC10 a).2.1 ≠ (TC10 b).2.1 := by decide +kernel
theorem tyC10_ok : ∀ k, k < 4 → parseFieldDescriptor (TC10 k).2.2.1 = some (tyC10 k) := by decide +kernel
def RC11 : String := "LineFramesModel"
def TC11 : u_T := fun k => match k with
  | 0 => ("LineFramesModel", "turn", "I", true)
  | 1 => ("LineFramesModel", "thrown", "I", false)
  | 2 => ("LineFramesModel", "width", "I", false)
  | 3 => ("LineFramesModel", "height", "I", false)
  | 4 => ("LineFramesModel", "bits", "I", false)
  | 5 => ("LineFramesModel", "components", "I", false)
  | 6 => ("LineFramesModel", "samples", "[I", true)
  | 7 => ("LineFramesModel", "hasTable", "[Z", true)
  | 8 => ("LineFramesModel", "tables", "[I", true)
  | 9 => ("LineFramesModel", "reset", "I", false)
  | 10 => ("LineFramesModel", "start", "I", false)
  | 11 => ("LineFramesModel", "restart", "I", false)
  | 12 => ("LineFramesModel", "notes", "I", false)
  | 13 => ("LineFramesModel", "noteKinds", "[I", true)
  | 14 => ("LineFramesModel", "noteSizes", "[I", true)
  | 15 => ("LineFramesModel", "noteBytes", "[I", true)
  | 16 => ("LineFramesModel", "written", "[I", true)
  | 17 => ("LineFramesModel", "writtenSize", "I", false)
  | 18 => ("LineFramesModel", "came", "[I", true)
  | 19 => ("LineFramesModel", "cameSize", "I", false)
  | 20 => ("LineFramesModel", "isRead", "Z", false)
  | 21 => ("LineFramesModel", "got", "[I", true)
  | 22 => ("LineFramesModel", "gotSamples", "[I", true)
  | 23 => ("LineFramesModel", "gotHasTable", "[Z", true)
  | 24 => ("LineFramesModel", "gotTables", "[I", true)
  | 25 => ("LineFramesModel", "gotKinds", "[I", true)
  | 26 => ("LineFramesModel", "gotSizes", "[I", true)
  | 27 => ("LineFramesModel", "gotBytes", "[I", true)
  | 28 => ("LineFramesModel", "fault", "I", false)
  | 29 => ("LineFramesModel", "place", "I", false)
  | 30 => ("LineFramesModel", "met", "I", false)
  | 31 => ("LineFramesModel", "whole", "I", false)
  | 32 => ("LineFramesModel", "p", "I", false)
  | 33 => ("LineFramesModel", "hasFrame", "Z", false)
  | 34 => ("LineFramesModel", "newWidth", "I", false)
  | 35 => ("LineFramesModel", "newHeight", "I", false)
  | 36 => ("LineFramesModel", "newBits", "I", false)
  | 37 => ("LineFramesModel", "newComponents", "I", false)
  | 38 => ("LineFramesModel", "newReset", "I", false)
  | 39 => ("LineFramesModel", "newStart", "I", false)
  | 40 => ("LineFramesModel", "newRestart", "I", false)
  | 41 => ("LineFramesModel", "newNotes", "I", false)
  | 42 => ("LineFramesModel", "newNear", "I", false)
  | 43 => ("LineFramesModel", "newTurn", "I", false)
  | 44 => ("LineFramesModel", "newSamples", "[I", true)
  | 45 => ("LineFramesModel", "newHasTable", "[Z", true)
  | 46 => ("LineFramesModel", "newTables", "[I", true)
  | 47 => ("LineFramesModel", "newKinds", "[I", true)
  | 48 => ("LineFramesModel", "newSizes", "[I", true)
  | 49 => ("LineFramesModel", "newBytes", "[I", true)
  | 50 => ("LineFramesModel", "hadScan", "[Z", true)
  | 51 => ("LineFramesModel", "told", "[I", true)
  | 52 => ("LineFramesModel", "sums", "[I", true)
  | 53 => ("LineFramesModel", "numbers", "[I", true)
  | 54 => ("LineFramesModel", "near", "I", false)
  | 55 => ("LineFramesModel", "top", "I", false)
  | 56 => ("LineFramesModel", "firstRow", "I", false)
  | 57 => ("LineFramesModel", "now", "I", false)
  | 58 => ("LineFramesModel", "used", "I", false)
  | 59 => ("LineFramesModel", "most", "I", false)
  | 60 => ("LineFramesModel", "next", "I", false)
  | 61 => ("LineFramesModel", "current", "I", false)
  | 62 => ("LineFramesModel", "left", "I", false)
  | 63 => ("LineFramesModel", "standsAt", "I", false)
  | _ => ("LineFramesModel", "isBehind", "Z", false)
def tyC11 : Nat → FieldType := fun k => match k with
  | 0 => .int
  | 1 => .int
  | 2 => .int
  | 3 => .int
  | 4 => .int
  | 5 => .int
  | 6 => .array .int
  | 7 => .array .boolean
  | 8 => .array .int
  | 9 => .int
  | 10 => .int
  | 11 => .int
  | 12 => .int
  | 13 => .array .int
  | 14 => .array .int
  | 15 => .array .int
  | 16 => .array .int
  | 17 => .int
  | 18 => .array .int
  | 19 => .int
  | 20 => .boolean
  | 21 => .array .int
  | 22 => .array .int
  | 23 => .array .boolean
  | 24 => .array .int
  | 25 => .array .int
  | 26 => .array .int
  | 27 => .array .int
  | 28 => .int
  | 29 => .int
  | 30 => .int
  | 31 => .int
  | 32 => .int
  | 33 => .boolean
  | 34 => .int
  | 35 => .int
  | 36 => .int
  | 37 => .int
  | 38 => .int
  | 39 => .int
  | 40 => .int
  | 41 => .int
  | 42 => .int
  | 43 => .int
  | 44 => .array .int
  | 45 => .array .boolean
  | 46 => .array .int
  | 47 => .array .int
  | 48 => .array .int
  | 49 => .array .int
  | 50 => .array .boolean
  | 51 => .array .int
  | 52 => .array .int
  | 53 => .array .int
  | 54 => .int
  | 55 => .int
  | 56 => .int
  | 57 => .int
  | 58 => .int
  | 59 => .int
  | 60 => .int
  | 61 => .int
  | 62 => .int
  | 63 => .int
  | _ => .boolean
theorem nmC11 : ∀ a, a < 65 → ∀ b, b < 65 → a ≠ b → (TC11 a).2.1 ≠ (TC11 b).2.1 := by decide +kernel
theorem tyC11_ok : ∀ k, k < 65 → parseFieldDescriptor (TC11 k).2.2.1 = some (tyC11 k) := by decide +kernel
abbrev vcl : List vw_C := [(RC0, TC0, 6), (RC1, TC1, 3), (RC2, TC2, 5), (RC3, TC3, 2), (RC4, TC4, 2), (RC5, TC5, 9), (RC6, TC6, 4), (RC7, TC7, 9), (RC8, TC8, 1), (RC9, TC9, 14), (RC10, TC10, 4), (RC11, TC11, 65)]
/-! the layout of the world: kinds (a class number, 100 int[], 101 boolean[], 102 long[]), lengths, targets -/
abbrev wN : Nat := 83
def wkdL : List Nat := [0, 7, 8, 100, 8, 100, 8, 100, 8, 100, 6, 8, 100, 8, 100, 8, 100, 3, 100, 3, 100, 10, 5, 8, 100, 8, 100, 8, 100, 1, 9, 7, 8, 100, 8, 100, 8, 100, 8, 100, 6, 8, 100, 8, 100, 8, 100, 4, 2, 5, 8, 100, 8, 100, 8, 100, 11, 100, 101, 100, 100, 100, 100, 100, 100, 100, 100, 101, 100, 100, 100, 100, 100, 101, 100, 100, 100, 100, 101, 100, 100, 100, 102]
def wlnL : List Nat := [0, 0, 0, 576, 0, 3, 0, 4, 0, 1024, 0, 0, 6, 0, 6, 0, 180, 0, 6000, 0, 6000, 0, 0, 0, 576, 0, 4, 0, 4, 0, 0, 0, 0, 576, 0, 3, 0, 4, 0, 1024, 0, 0, 6, 0, 6, 0, 180, 0, 0, 0, 0, 4, 0, 4, 0, 4, 0, 576, 4, 1024, 6, 6, 180, 9000, 6000, 10, 576, 4, 1024, 6, 6, 180, 576, 4, 1024, 6, 6, 180, 4, 576, 4, 4, 1]
def wtgL : List (List Nat) := [[0, 1, 17, 19, 21, 30], [2, 4, 6, 8, 10, 0, 0, 0, 0], [3], [], [5], [], [7], [], [9], [], [11, 13, 15, 0], [12], [], [14], [], [16], [], [18, 0], [], [20, 0], [], [1, 17, 22, 29], [23, 25, 27, 0, 0, 0, 0, 0, 0], [24], [], [26], [], [28], [], [17, 0, 0], [19, 31, 47, 48, 49, 54, 0, 0, 0, 0, 0, 0, 0, 0], [32, 34, 36, 38, 40, 0, 0, 0, 0], [33], [], [35], [], [37], [], [39], [], [41, 43, 45, 0], [42], [], [44], [], [46], [], [0, 0], [19, 47, 0, 0, 0], [32, 50, 52, 0, 0, 0, 0, 0, 0], [51], [], [53], [], [55], [], [0, 0, 0, 0, 0, 0, 57, 58, 59, 0, 0, 0, 0, 60, 61, 62, 63, 0, 64, 0, 0, 65, 66, 67, 68, 69, 70, 71, 0, 0, 0, 0, 0, 0, 0, 0, 0, 0, 0, 0, 0, 0, 0, 0, 72, 73, 74, 75, 76, 77, 78, 79, 80, 81, 0, 0, 0, 0, 0, 0, 0, 0, 0, 0, 0], [], [], [], [], [], [], [], [], [], [], [], [], [], [], [], [], [], [], [], [], [], [], [], [], [], []]
def wnfL : List Nat := [6, 3, 5, 2, 2, 9, 4, 9, 1, 14, 4, 65]
def wrfL : List (List Bool) := [[false, true, true, true, true, true], [true, false, false], [true, true, false, false, false], [true, false], [false, false], [true, true, true, false, false, false, false, false, false], [true, true, true, false], [true, true, true, true, true, false, false, false, false], [true], [true, true, true, true, true, true, false, false, false, false, false, false, false, false], [true, true, true, true], [false, false, false, false, false, false, true, true, true, false, false, false, false, true, true, true, true, false, true, false, false, true, true, true, true, true, true, true, false, false, false, false, false, false, false, false, false, false, false, false, false, false, false, false, true, true, true, true, true, true, true, true, true, true, false, false, false, false, false, false, false, false, false, false, false]]
def wkd (k : Nat) : Nat := wkdL.getD k 0
def wln (k : Nat) : Nat := wlnL.getD k 0
def wtg (k j : Nat) : Nat := (wtgL.getD k []).getD j 0
def wnf (c : Nat) : Nat := wnfL.getD c 0
def wrf (c j : Nat) : Bool := (wrfL.getD c []).getD j false
def strL : List (String × Nat × String) := [("LineFrames", 63, "no such picture"), ("LineFrames", 273, "there is no picture"), ("LineFrames", 84, "no such sample"), ("LineFrames", 91, "no value of a sample"), ("LineFrames", 115, "no such preset"), ("LineFrames", 123, "no such component"), ("LineFrames", 126, "no sample, or no number that it may stand for"), ("LineFrames", 142, "no kind of a note"), ("LineFrames", 156, "no room for a note"), ("LineFrames", 165, "no such note"), ("LineFrames", 278, "no byte"), ("LineFrames", 173, "no room in the note"), ("LineFrames", 178, "no such NEAR"), ("LineFrames", 188, "no such byte was written"), ("LineFrames", 194, "no room for a byte"), ("LineFrames", 199, "fewer than no bytes"), ("LineFrames", 201, "no room for so many bytes"), ("LineFrames", 203, "no such byte came"), ("LineFrames", 276, "nothing was read"), ("LineFrames", 253, "no such note, or no such byte of it")]
end
section
/-! THE WORLD: 83 cells that stay where they are; their numbers are a memory Mem -/
abbrev Mem : Type := Nat → Nat → Int32
abbrev Rs : Type := (Option Value ⊕ Nat) × Mem
abbrev GC : Type := ClassId × ClassId × ClassId
def mput (σ : Mem) (k j : Nat) (v : Int32) : Mem := fun a => if a = k then upd (σ k) j v else σ a
theorem mput_self {σ : Mem} {k j : Nat} {v : Int32} : mput σ k j v k = upd (σ k) j v := if_pos rfl
theorem mput_ne {σ : Mem} {k j a : Nat} {v : Int32} (h : a ≠ k) : mput σ k j v a = σ a := if_neg h
/-- a named step: what follows speaks of it by its name -/
def lt {α β : Type} (e : α) (K : α → β) : β := K e
def wfl (ad : Nat → Nat) (σ : Mem) (k : Nat) : List Value := (List.range (wnf (wkd k))).map fun j => if wrf (wkd k) j = true then Value.ref (ad (wtg k j)) else .int (σ k j)
def wce (G : GC) (ad : Nat → Nat) (σ : Mem) (k : Nat) : va_E :=
  if wkd k = 100 then .inl (G.1, wln k, .inl (σ k)) else if wkd k = 101 then .inl (G.2.1, wln k, .inl (σ k)) else if wkd k = 102 then .inl (G.2.2, wln k, .inr (.inl fun j => (σ k j).toInt64)) else .inr (wkd k, wfl ad σ k)
def wld (G : GC) (ad : Nat → Nat) (σ : Mem) : va_W := (List.range wN).map fun k => (ad k, wce G ad σ k)
section WL
variable {G : GC} {ad : Nat → Nat} {σ : Mem} {k j c i : Nat} {v : Int32}
theorem wld_len : (wld G ad σ).length = wN := by simp [wld]
theorem wld_at (h : k < wN) : (wld G ad σ)[k]? = some (ad k, wce G ad σ k) := by simp [wld, h]
theorem wld_of {q : Nat × va_E} (h : (wld G ad σ)[k]? = some q) : k < wN ∧ q = (ad k, wce G ad σ k) := by
  have hl : k < wN := by
    have := (List.getElem?_eq_some_iff.mp h).1
    rwa [wld_len] at this
  rw [wld_at hl] at h
  exact ⟨hl, (Option.some.inj h).symm⟩
theorem wfl_len (hc : wkd k = c) : (wfl ad σ k).length = wnf c := by simp [wfl, hc]
theorem wfl_at (hc : wkd k = c) (hj : j < wnf c) : (wfl ad σ k)[j]? = some (if wrf c j = true then Value.ref (ad (wtg k j)) else .int (σ k j)) := by
  simp [wfl, hc, hj]
theorem wld_obj (h : k < wN) (hc : wkd k = c) (hl : c < 100) : (wld G ad σ)[k]? = some (ad k, .inr (c, wfl ad σ k)) := by
  rw [wld_at h, wce, hc, if_neg (by omega), if_neg (by omega), if_neg (by omega)]
theorem wld_int (h : k < wN) (hc : wkd k = 100) : (wld G ad σ)[k]? = some (ad k, .inl (G.1, wln k, .inl (σ k))) := by
  rw [wld_at h, wce, if_pos hc]
theorem wld_bool (h : k < wN) (hc : wkd k = 101) : (wld G ad σ)[k]? = some (ad k, .inl (G.2.1, wln k, .inl (σ k))) := by
  rw [wld_at h, wce, hc, if_neg (by decide), if_pos rfl]
theorem wld_long (h : k < wN) (hc : wkd k = 102) : (wld G ad σ)[k]? = some (ad k, .inl (G.2.2, wln k, .inr (.inl fun j => (σ k j).toInt64))) := by
  rw [wld_at h, wce, hc, if_neg (by decide), if_neg (by decide), if_pos rfl]
theorem wce_ne (h : i ≠ k) : wce G ad (mput σ k j v) i = wce G ad σ i := by
  simp only [wce, wfl, mput_ne h]
theorem wld_set {e : va_E} (h : k < wN) (he : e = wce G ad (mput σ k j v) k) : (wld G ad σ).set k (ad k, e) = wld G ad (mput σ k j v) := by
  apply List.ext_getElem?
  intro i
  by_cases hi : i = k
  · subst hi
    rw [List.getElem?_set_self (by rw [wld_len]; exact h), wld_at h, he]
  · rw [List.getElem?_set_ne (Ne.symm hi)]
    by_cases hl : i < wN
    · rw [wld_at hl, wld_at hl, wce_ne hi]
    · rw [List.getElem?_eq_none (by rw [wld_len]; omega), List.getElem?_eq_none (by rw [wld_len]; omega)]
theorem wfl_put (hc : wkd k = c) (hj : j < wnf c) (hr : wrf c j = false) : (wfl ad σ k).set j (.int v) = wfl ad (mput σ k j v) k := by
  apply List.ext_getElem?
  intro i
  by_cases hi : i = j
  · subst hi
    rw [List.getElem?_set_self (by rw [wfl_len hc]; exact hj), wfl_at hc hj, hr]
    simp [mput_self, upd]
  · rw [List.getElem?_set_ne (Ne.symm hi)]
    by_cases hl : i < wnf c
    · rw [wfl_at hc hl, wfl_at hc hl]
      simp [mput_self, upd, hi]
    · rw [List.getElem?_eq_none (by rw [wfl_len hc]; omega), List.getElem?_eq_none (by rw [wfl_len hc]; omega)]
theorem wld_put (h : k < wN) (hc : wkd k = c) (hl : c < 100) (hj : j < wnf c) (hr : wrf c j = false) : (wld G ad σ).set k (ad k, .inr (c, (wfl ad σ k).set j (.int v))) = wld G ad (mput σ k j v) := by
  refine wld_set h ?_
  rw [wfl_put hc hj hr, wce, hc, if_neg (by omega), if_neg (by omega), if_neg (by omega)]
theorem wld_iput (h : k < wN) (hc : wkd k = 100) : (wld G ad σ).set k (ad k, .inl (G.1, wln k, .inl (upd (σ k) j v))) = wld G ad (mput σ k j v) := by
  refine wld_set h ?_
  rw [wce, if_pos hc, mput_self]
theorem wld_zput (h : k < wN) (hc : wkd k = 101) : (wld G ad σ).set k (ad k, .inl (G.2.1, wln k, .inl (upd (σ k) j v))) = wld G ad (mput σ k j v) := by
  refine wld_set h ?_
  rw [wce, hc, if_neg (by decide), if_pos rfl, mput_self]
theorem wld_lput (h : k < wN) (hc : wkd k = 102) : (wld G ad σ).set k (ad k, .inl (G.2.2, wln k, .inr (.inl (vp_updL (fun j => (σ k j).toInt64) j v.toInt64)))) = wld G ad (mput σ k j v) := by
  refine wld_set h ?_
  rw [wce, hc, if_neg (by decide), if_neg (by decide), if_pos rfl, mput_self]
  congr 5
  funext i
  by_cases hi : i = j
  · simp [vp_updL, upd, hi]
  · simp [vp_updL, upd, hi]
end WL
/-! the words that stay true -/
def stb : Cond → Bool
  | .fieldLinkNest .. => true
  | .methodLinkNest .. => true
  | w => w.onTables && w.keeps
def Wds (U : State) : Prop := ∀ w ∈ lw_tbl, stb w = true → ∀ a : Array Value, w.before a U = true
theorem stb_tab {w : Cond} (h : stb w = true) : w.onTables = true := by
  cases w <;> first | rfl | (simp only [stb, Bool.and_eq_true] at h; exact h.1)
theorem Wds.of {A : Array Value} {s : State} (h : ∀ w ∈ lw_tbl, w.before A s = true) : Wds s := fun w hw hg a => va_tabs (stb_tab hg) rfl (h w hw)
theorem stb_warm {w : Cond} {s U : State} {a : Array Value} (hg : stb w = true) (hW : s.WarmedH U.vm) (h : ∀ a : Array Value, w.before a s = true) : w.before a U = true := by
  have key : ∀ w : Cond, (w.onTables && w.keeps) = true → (∀ a : Array Value, w.before a s = true) → w.before a U = true := fun w g h => word_at hW (Or.inl g) (h #[])
  cases w <;> first
    | exact va_tabs (A := #[]) rfl (rfl : (s.setVm U.vm).vm = U.vm) (Cond.fieldLinkNest_warmed (args := #[]) hW (h #[]))
    | exact va_tabs (A := #[]) rfl (rfl : (s.setVm U.vm).vm = U.vm) (Cond.methodLinkNest_warmed (args := #[]) hW (h #[]))
    | exact key _ hg h
theorem Wds.warm {s U : State} (hW : s.WarmedH U.vm) (h : Wds s) : Wds U := fun w hw hg a => stb_warm hg hW (h w hw hg)
theorem Wds.same {s U : State} (hv : s.vm = U.vm) (h : Wds s) : Wds U := fun w hw hg a => va_tabs (stb_tab hg) hv (h w hw hg a)
/-- a static of the library's that is null or a reference: it hangs on the tables and on one cell that the world has not -/
def SF (n d : String) (A : Nat → Prop) (U : State) (H : Heap) : Prop :=
  ∃ (a : Nat) (cell : Cell), H[a]? = some cell ∧ cell.vm.isStatics = true ∧ ¬ A a ∧ ∀ (U' : State) (g : Array Value), U.vm.Alike U'.vm → U'.heap[a]? = some cell → (Cond.isRef (.static "java/lang/Throwable" n d)).before g U' = true ∧ (Cond.laysStatic "java/lang/Throwable" n d).before g U' = true
theorem SF.moved {n d : String} {A : Nat → Prop} {u U : State} {H : Heap} (hv : u.vm.Alike U.vm) (h : SF n d A u H) : SF n d A U H := by
  obtain ⟨a, cell, h1, h2, h3, h4⟩ := h
  exact ⟨a, cell, h1, h2, h3, fun U' g hv' hc => h4 U' g (hv.trans hv') hc⟩
theorem SF.kept {n d : String} {A : Nat → Prop} {U : State} {H H1 : Heap} (h : SF n d A U H) (hq : ∀ a : Nat, a < H.size → ¬ A a → H1[a]? = H[a]?) : SF n d A U H1 := by
  obtain ⟨a, cell, h1, h2, h3, h4⟩ := h
  exact ⟨a, cell, by rw [hq a (Array.getElem?_eq_some_iff.mp h1).1 h3]; exact h1, h2, h3, h4⟩
theorem SF.narrow {n d : String} {A B : Nat → Prop} {U : State} {H : Heap} (h : SF n d A U H) (hAB : ∀ q, q < H.size → B q → A q) : SF n d B U H := by
  obtain ⟨a, cell, h1, h2, h3, h4⟩ := h
  exact ⟨a, cell, h1, h2, fun z => h3 (hAB a (Array.getElem?_eq_some_iff.mp h1).1 z), h4⟩
theorem SF.of {n d : String} {A : Nat → Prop} {s : State} {g0 : Array Value} (h1 : (Cond.isRef (.static "java/lang/Throwable" n d)).before g0 s = true) (h2 : (Cond.laysStatic "java/lang/Throwable" n d).before g0 s = true) (hA : ∀ a : Nat, a < s.heap.size → ¬ A a) : SF n d A s s.heap := by
  obtain ⟨c, k, i, f, a, cell, hc, hi, hst, ha, hcell, hs, hcls, hlt, hty⟩ := Cond.laysStatic_spec h2
  have hx : ∃ v, cell.slots[f.slot]? = some v ∧ v.isRef = true := by
    obtain ⟨u, hu⟩ := Cond.staticRefV hi hst ha hcell hs h1
    exact ⟨u.v, hu, u.2⟩
  obtain ⟨v, hv, hvr⟩ := hx
  refine ⟨a, cell, hcell, hs, hA a (Array.getElem?_eq_some_iff.mp hcell).1, fun U' g hvm hcell' => ?_⟩
  obtain ⟨k', hi', he⟩ := State.fieldFound?_setVm hvm hi
  have hi2 : U'.fieldFound? "java/lang/Throwable" n d = some (c, k', i, f) := hi'
  have hsta : k'.statics = some a := by rw [he]; exact ha
  refine ⟨?_, ?_⟩
  · have hev : (Term.static "java/lang/Throwable" n d).eval g U' none [] U' = some v := by
      simp [Term.eval, State.fieldNamed?, hi2, hst, hsta, hcell', hs, hv]
    simp only [Cond.before, Cond.holds, Cond.value, hev]
    cases v with
    | null => rfl
    | ref r => rfl
    | _ => exact absurd hvr Bool.false_ne_true
  · exact Cond.laysStatic_of (by rw [hvm.findClass]; exact hc) hi2 hst hsta hcell' hs hcls hlt (by rw [he]; exact hty)
end
section
/-! the fields' words stand in the tables -/
set_option maxRecDepth 100000 in
theorem us_all : ∀ (c : Nat) (q : vw_C), vcl[c]? = some q → ∀ w ∈ u_ws q.1 q.2.1 q.2.2, w ∈ lw_tbl ∧ stb w = true := by
  intro c q h
  match c, h with
  | 0, h => cases h; decide +kernel
  | 1, h => cases h; decide +kernel
  | 2, h => cases h; decide +kernel
  | 3, h => cases h; decide +kernel
  | 4, h => cases h; decide +kernel
  | 5, h => cases h; decide +kernel
  | 6, h => cases h; decide +kernel
  | 7, h => cases h; decide +kernel
  | 8, h => cases h; decide +kernel
  | 9, h => cases h; decide +kernel
  | 10, h => cases h; decide +kernel
  | 11, h => cases h; decide +kernel
  | n + 12, h => simp [vcl] at h
theorem ty_all : ∀ (c : Nat) (q : vw_C), vcl[c]? = some q → ∃ ty : Nat → FieldType, (∀ k, k < q.2.2 → parseFieldDescriptor (q.2.1 k).2.2.1 = some (ty k)) ∧ ∀ a, a < q.2.2 → ∀ b, b < q.2.2 → a ≠ b → (q.2.1 a).2.1 ≠ (q.2.1 b).2.1 := by
  intro c q h
  match c, h with
  | 0, h => cases h; exact ⟨tyC0, tyC0_ok, nmC0⟩
  | 1, h => cases h; exact ⟨tyC1, tyC1_ok, nmC1⟩
  | 2, h => cases h; exact ⟨tyC2, tyC2_ok, nmC2⟩
  | 3, h => cases h; exact ⟨tyC3, tyC3_ok, nmC3⟩
  | 4, h => cases h; exact ⟨tyC4, tyC4_ok, nmC4⟩
  | 5, h => cases h; exact ⟨tyC5, tyC5_ok, nmC5⟩
  | 6, h => cases h; exact ⟨tyC6, tyC6_ok, nmC6⟩
  | 7, h => cases h; exact ⟨tyC7, tyC7_ok, nmC7⟩
  | 8, h => cases h; exact ⟨tyC8, tyC8_ok, nmC8⟩
  | 9, h => cases h; exact ⟨tyC9, tyC9_ok, nmC9⟩
  | 10, h => cases h; exact ⟨tyC10, tyC10_ok, nmC10⟩
  | 11, h => cases h; exact ⟨tyC11, tyC11_ok, nmC11⟩
  | n + 12, h => simp [vcl] at h
end
section
/-! THE LAYER: contracts over the world, and walks over it -/
def wA (ad : Nat → Nat) (sz : Nat) : Nat → Prop := fun q => (∃ k, k < wN ∧ q = ad k) ∨ sz ≤ q
/-- the classes of what is thrown -/
def xNm (n : Nat) : String := if n = 1 then "java/lang/IllegalStateException" else if n = 2 then "java/lang/IndexOutOfBoundsException" else if n = 3 then "java/lang/IllegalArgumentException" else "java/lang/UnsupportedOperationException"
def rc (ρ : Rs) : Nat := match ρ.1 with
  | .inl _ => 0
  | .inr _ => 1
def rsl (ρ : Rs) : Nat := match ρ.1 with
  | .inl _ => 0
  | .inr _ => 6
abbrev wtys (G : GC) : List (ClassId × FieldType) := [(G.1, .int), (G.2.1, .boolean), (G.2.2, .long)]
def Env0 (D : va_G) (G : GC) (ad : Nat → Nat) (U : State) (H : Heap) : Prop :=
  va_K D vcl (wtys G) U ∧ Wds U ∧ SF "UNASSIGNED_STACK" "[Ljava/lang/StackTraceElement;" (wA ad H.size) U H ∧ SF "SUPPRESSED_SENTINEL" "Ljava/util/List;" (wA ad H.size) U H ∧ (∀ q ∈ strL, ∃ a, vk_R q.1 q.2.1 q.2.2 a U) ∧ (∀ i j, i < wN → j < wN → ad i = ad j → i = j)
theorem wA_mono {ad : Nat → Nat} {a b : Nat} (h : a ≤ b) : ∀ q, wA ad b q → wA ad a q := fun _ hq => hq.elim Or.inl fun z => Or.inr (Nat.le_trans h z)
theorem wld_D {G : GC} {ad : Nat → Nat} {σ : Mem} {sz : Nat} (h : ∀ i j, i < wN → j < wN → ad i = ad j → i = j) : va_D (wA ad sz) (wld G ad σ) := by
  refine ⟨fun i j p q hi hj hpq => ?_, fun k q hk => ?_⟩
  · obtain ⟨h1, e1⟩ := wld_of hi
    obtain ⟨h2, e2⟩ := wld_of hj
    subst e1; subst e2
    exact h i j h1 h2 hpq
  · obtain ⟨h1, e1⟩ := wld_of hk
    subst e1
    exact Or.inl ⟨k, h1, rfl⟩
theorem Env0.step {D : va_G} {G : GC} {ad : Nat → Nat} {s U : State} {H0 H : Heap} {locs : List Loc} (h : Env0 D G ad s H0) (hW : s.WarmedH U.vm) (hS : va_S (wA ad H0.size) H0 H locs) : Env0 D G ad U H := by
  obtain ⟨h1, h2, h3, h4, h5, h6⟩ := h
  refine ⟨va_K.moved hW.alike h1, h2.warm hW, ?_, ?_, fun q hq => ?_, h6⟩
  · exact ((h3.moved hW.alike).kept hS.2.1).narrow (fun q _ hq => wA_mono hS.1 q hq)
  · exact ((h4.moved hW.alike).kept hS.2.1).narrow (fun q _ hq => wA_mono hS.1 q hq)
  · obtain ⟨a, ha⟩ := h5 q hq
    exact ⟨a, ha.warm hW⟩
theorem Env0.same {D : va_G} {G : GC} {ad : Nat → Nat} {s U : State} {H : Heap} (h : Env0 D G ad s H) (hv : s.vm = U.vm) : Env0 D G ad U H := by
  obtain ⟨h1, h2, h3, h4, h5, h6⟩ := h
  have ha : s.vm.Alike U.vm := by rw [hv]; exact Vm.Alike.refl _
  refine ⟨va_K.moved ha h1, h2.same hv, h3.moved ha, h4.moved ha, fun q hq => ?_, h6⟩
  obtain ⟨a, h⟩ := h5 q hq
  exact ⟨a, vk_R.same hv.symm h⟩
/-- how a method ended, and what the world is then -/
def Out (D : va_G) (G : GC) (ad : Nat → Nat) (ρ : Rs) (st : State) (o : Outcome) (t : State) : Prop :=
  (match ρ.1 with
    | .inl v => o = .returned v
    | .inr n => ∃ (q : Addr) (ce : Cell), o = .threw q ∧ t.heap[q]? = some ce ∧ ce.vm = .none ∧ st.vm.findClass (xNm n) = some ce.cls) ∧
  va_P D vcl (wld G ad ρ.2) t.heap ∧ va_F (wA ad st.heap.size) st t
def FE (st t : State) (L : List Loc) (k n : Nat) : Prop := st.WarmedH t.vm ∧ st.sameButNew ({ t with vm := st.vm } : State) L k n
def rmOf (fr lo : Nat) (ρ : Rs) : Room := { frames := fr, cells := rc ρ, slots := rsl ρ, locals := lo }
/-- A METHOD'S CONTRACT: called with av in a world σ it ends as ρ says -/
def Ctr (l : Launch) (D : va_G) (G : GC) (ad : Nat → Nat) (y : MethodName) (bytes : ByteArray) (mL : Nat) (ret : Option FieldType) (fr lo : Nat) (av : List Value) (σ : Mem) (ρ : Rs) : Prop :=
  ∀ sz : Nat, l.stackTraces = false → MetFree l y (headSpec [.code y bytes mL ret] (rmOf fr lo ρ)) (fun a U => a = av.toArray ∧ U.heap.size = sz ∧ va_P D vcl (wld G ad σ) U.heap ∧ Env0 D G ad U U.heap) (fun _ _ _ _ _ => True)
    (fun _ st o t => Out D G ad ρ st o t ∧ ∃ L, FE st t L (rc ρ) (rsl ρ) ∧ ∀ q ∈ L, wA ad sz q.base)
def QF (below : List Frame) (D : va_G) (G : GC) (ad : Nat → Nat) (ρ : Rs) (s : State) : State → Prop := fun t =>
  ∃ o, t.status = .running ∧ Ended t below o ∧ Out D G ad ρ s o t ∧ ∃ L, FE s t L (rc ρ) (rsl ρ) ∧ ∀ q ∈ L, wA ad s.heap.size q.base
/-- what stays the same in one walk: p l e R s m args below meth c, D G ad, ρ -/
abbrev Fx : Type := (Program × Launch × Env × Room × State) × (MethodId × Array Value × List Frame × Method × Code) × (va_G × GC × (Nat → Nat) × Rs)
def V (F : Fx) (nL : Nat) (σ : Mem) (pc : Nat) (lv : List (Nat × Value)) (st : List Value) : Prop :=
  ∀ (H : Heap) (locs : List Loc) (ls : Array Slot), va_P F.2.2.1 vcl (wld F.2.2.2.1 F.2.2.2.2.1 σ) H → va_S (wA F.2.2.2.2.1 F.1.2.2.2.2.heap.size) F.1.2.2.2.2.heap H locs → lv_has ls nL lv →
    W F.1.1 F.1.2.1 F.1.2.2.1 F.1.2.2.2.1 F.1.2.2.2.2 F.2.1.1 F.2.1.2.1 F.2.1.2.2.1 F.2.1.2.2.2.1 F.2.1.2.2.2.2 H locs 0 0 (QF F.2.1.2.2.1 F.2.2.1 F.2.2.2.1 F.2.2.2.2.1 F.2.2.2.2.2 F.1.2.2.2.2) (F0 F.2.1.1 pc ls st)
/-- from here the walk ends as E says -/
def J {β : Type} (F : Fx) (nL : Nat) (cv : β → Option Rs) (E : β) (σ : Mem) (pc : Nat) (lv : List (Nat × Value)) (st : List Value) : Prop := cv E = some F.2.2.2.2.2 → V F nL σ pc lv st
abbrev fad (F : Fx) : Nat → Nat := F.2.2.2.2.1
/-- what a walk knows -/
def Ctx (F : Fx) (cc : ByteArray) (nL : Nat) (own : String) (ret : Option FieldType) (fr lo : Nat) : Prop :=
  F.1.1.tables.exec = Jvm.exec ∧ F.2.1.2.2.2.2.code = cc ∧ F.2.1.2.2.2.2.maxLocals = nL ∧ F.1.2.2.2.2.vm.findClass own = some F.2.1.1.cls ∧ F.2.1.2.2.2.1.sig.returnType = ret ∧ F.2.1.2.2.2.1.locks = false ∧
  (∀ x ∈ F.2.1.2.2.2.2.exceptionTable.toList, False) ∧ F.1.2.2.2.1 = rmOf fr lo F.2.2.2.2.2 ∧ Env0 F.2.2.1 F.2.2.2.1 F.2.2.2.2.1 F.1.2.2.2.2 F.1.2.2.2.2.heap ∧ F.1.2.1.stackTraces = false ∧ ∃ σ0, va_P F.2.2.1 vcl (wld F.2.2.2.1 F.2.2.2.2.1 σ0) F.1.2.2.2.2.heap
end
section
/-! A CALL by a contract, whichever way it ends -/
section CT
variable {p : Program} {l : Launch} {e : Env} {R : Room} {s : State} {m : MethodId} {args : Array Value} {below : List Frame} {meth : Method} {c : Code} {U : State} {locs : List Loc} {cells slots : Nat}
variable {D : va_G} {G : GC} {ad : Nat → Nat} {y : MethodName} {bytes : ByteArray} {mL fr lo : Nat} {ret : Option FieldType} {av : List Value} {σ : Mem} {ρ : Rs} {g : JFrame} {ig : Instr} {mk : MethodId}
theorem ct_go (X : Stand p l e R s m args below meth c U locs cells slots) (hg : g.method = m) (hsize : g.locals.size = c.maxLocals) (hd : decode c.code g.pc = .ok (ig, 3)) (hW : 2 * g.monitorRoom + (g.stack.map fun v => v.category).sum ≤ 8) (hn : U.methodNamed? y = some mk)
    (hct : Ctr l D G ad y bytes mL ret fr lo av σ ρ) (hcode : (Cond.code y bytes mL ret).before av.toArray U = true) (hini : (Cond.initialized y.cls).before av.toArray U = true) (hfr : fr + 1 ≤ R.frames) (hlo : 8 + (mL + 11) + lo ≤ R.locals) (hrc : cells + rc ρ ≤ R.cells) (hrs : slots + rsl ρ ≤ R.slots)
    (hP : va_P D vcl (wld G ad σ) U.heap) (hE : Env0 D G ad U U.heap) (hnt : l.stackTraces = false) :
    ∃ (o : Outcome) (T' : State) (L : List Loc), Stand p l e R s m args below meth c T' (locs ++ L) (cells + rc ρ) (slots + rsl ρ) ∧ (∀ q ∈ L, wA ad U.heap.size q.base) ∧ Out D G ad ρ U o T' ∧
      (∀ v, o = .returned v → Steps p.tables e below (doInvoke e (U.setTop g) [] mk av.toArray).1 (T'.setTop { g with pc := g.pc + 3, stack := v.toList ++ g.stack })) ∧
      (∀ q, o = .threw q → Steps p.tables e below (doInvoke e (U.setTop g) [] mk av.toArray).1 ((T'.setTop g).pushFrame (.throwing q))) := by
  obtain ⟨methY, cY, hmY, hcY, -, hlY, -, -, -, -⟩ := Cond.code_spec hn hcode
  obtain ⟨kY, hkY, -⟩ := className_of_methodNamed hn
  have hinitY : kY.init = .initialized := Cond.initialized_spec (findClass_of_methodNamed hn) hkY hini
  have hAt : At U g.method c below := by rw [hg]; exact X.here
  have hroom : (U.calling g mk av.toArray).hasRoom e.platform (rmOf fr lo ρ) = true := X.room_calling (g := g) (R' := rmOf fr lo ρ) hsize hmY hcY hfr (by rw [hlY]; show _ + _ + (mL + 11) + lo ≤ _; omega) hrc hrs
  have happ : (headSpec [.code y bytes mL ret] (rmOf fr lo ρ)).appliesLoose y e.platform (U.calling g mk av.toArray) = true :=
    Spec.appliesLoose_calling (g := g) hAt hd hn hkY hinitY hroom (atoms_intro fun w hw => by rw [List.mem_singleton.mp hw]; exact hcode)
  obtain ⟨mid, hmid⟩ := hAt.above
  have hfr2 : (U.setTop g).frames = (.java g :: mid) ++ below := by rw [State.frames_setTop' g hAt.top, hmid]; rfl
  obtain ⟨o, t, hst, -, hend, hq⟩ := Steps.callFree (hct U.heap.size hnt) p X.admits X.cas X.clock (acts := []) hfr2 happ ⟨rfl, rfl, hP, hE.same rfl⟩ trivial
  rw [State.frames_setTop' g hAt.top] at hend
  obtain ⟨hout, L, ⟨hWm, hsm⟩, hL⟩ := hq
  have hW' : U.WarmedH t.vm := hWm
  have hsm : (U.calling g mk av.toArray).sameButNew ({ t with vm := (U.calling g mk av.toArray).vm } : State) L (rc ρ) (rsl ρ) := hsm
  obtain ⟨e2, q2, q3, q4, q5, q6⟩ := hsm
  obtain ⟨g₀, hg0⟩ := Option.isSome_iff_exists.mp hAt.top
  obtain ⟨r, hr⟩ := State.topJava?_eq_some.mp hg0
  obtain ⟨T', hT'⟩ : ∃ z, z = ({ U with heap := t.heap, slotsUsed := t.slotsUsed } : State).setVm t.vm := ⟨_, rfl⟩
  have hr' : T'.frames = .java g₀ :: r := by rw [hT']; exact hr
  have e3 : t = ({ (U.calling g mk av.toArray).setFrames t.frames with heap := t.heap, slotsUsed := t.slotsUsed } : State).setVm t.vm := by
    have : t = ({ t with vm := (U.calling g mk av.toArray).vm } : State).setVm t.vm := rfl
    rw [e2] at this
    exact this
  have hsame : U.sameButNew ({ U with heap := t.heap, slotsUsed := t.slotsUsed } : State) L (rc ρ) (rsl ρ) := by
    refine ⟨?_, q2, q3, q4, q5, q6⟩
    obtain ⟨z, hz, -⟩ := State.frames_cons hr
    show ({ U with heap := t.heap, slotsUsed := t.slotsUsed } : State) = { U.setFrames U.frames with heap := t.heap, slotsUsed := t.slotsUsed }
    rw [State.setFrames_self hz]
  have X' : Stand p l e R s m args below meth c T' (locs ++ L) (cells + rc ρ) (slots + rsl ρ) := by
    rw [hT']
    exact ⟨X.admits, X.cas, X.clock, X.frames, X.room, X.hears, X.method, X.code, (X.here.setHeapUsed t.heap t.slotsUsed).setVm hW'.alike, X.tail, State.WarmedH.trans X.warmed hW', X.limits, X.bytes, X.same.trans (hsame.setVm s.vm)⟩
  have hhp : T'.heap = t.heap := by rw [hT']; rfl
  refine ⟨o, T', L, X', hL, ?_, ?_, ?_⟩
  · obtain ⟨h1, h2, h3⟩ := hout
    refine ⟨?_, by rw [hhp]; exact h2, ?_⟩
    · cases hρ : ρ.1 with
      | inl v => rw [hρ] at h1; exact h1
      | inr n =>
        rw [hρ] at h1
        obtain ⟨q, ce, r1, r2, r3, r4⟩ := h1
        exact ⟨q, ce, r1, by rw [hhp]; exact r2, r3, r4⟩
    · obtain ⟨z1, z2⟩ := h3
      exact ⟨by rw [hhp]; exact z1, fun q a b => by rw [hhp]; exact z2 q a b⟩
  · intro v ho
    subst ho
    obtain ⟨c₂, i₂, len₂, hc₂, hd₂, hf₂⟩ := hend
    have hcc : c₂ = c := by
      have h1 : t.code? g.method = U.code? g.method := by rw [State.code?_eq, State.code?_eq, hW'.alike.method?]
      exact Option.some.inj (hc₂.symm.trans (h1.trans hAt.code))
    subst hcc
    have hlen : len₂ = 3 := by rw [hd] at hd₂; cases hd₂; rfl
    subst hlen
    have ht : t = T'.setTop { g with pc := g.pc + 3, stack := v.toList ++ g.stack } := by
      refine e3.trans ?_
      rw [hf₂, State.calling_eq hAt.top, State.setFrames_setFrames, State.setTop_of_frames _ hr', hT', hr]
      rfl
    rw [← ht]
    exact hst
  · intro q ho
    subst ho
    have hf₂ : t.frames = .throwing q :: .java g :: U.frames.tail := hend
    have ht : t = (T'.setTop g).pushFrame (.throwing q) := by
      refine e3.trans ?_
      rw [hf₂, State.calling_eq hAt.top, State.setFrames_setFrames, State.pushFrame, State.frames_setTop _ hr', State.setTop_of_frames _ hr', State.setFrames_setFrames, hT', hr]
      rfl
    rw [← ht]
    exact hst
end CT
end
section
/-! ROWS: one for each instruction -/
section JR
variable {β : Type} {F : Fx} {nL : Nat} {cv : β → Option Rs} {E A B : β} {σ : Mem} {pc : Nat} {lv lv9 : List (Nat × Value)} {st : List Value} {cc : ByteArray} {own : String} {ret : Option FieldType} {fr lo : Nat} {x y v : Int32}
theorem j_iconst (C : Ctx F cc nL own ret fr lo) {n : Int} (d : decode cc pc = .ok (.iconst n, 1)) (hv : Int32.ofInt n = v) (K : J F nL cv E σ (pc + 1) lv (.int v :: st)) : J F nL cv E σ pc lv st := fun hE H locs ls hP hS hl => lv_iconst C.1 C.2.1 d hv (K hE H locs ls hP hS hl)
theorem j_bipush (C : Ctx F cc nL own ret fr lo) {n : Int} (d : decode cc pc = .ok (.bipush n, 2)) (hv : (Int8.ofInt n).toInt32 = v) (K : J F nL cv E σ (pc + 2) lv (.int v :: st)) : J F nL cv E σ pc lv st := fun hE H locs ls hP hS hl => lv_bipush C.1 C.2.1 d hv (K hE H locs ls hP hS hl)
theorem j_sipush (C : Ctx F cc nL own ret fr lo) {n : Int} (d : decode cc pc = .ok (.sipush n, 3)) (hv : (Int16.ofInt n).toInt32 = v) (K : J F nL cv E σ (pc + 3) lv (.int v :: st)) : J F nL cv E σ pc lv st := fun hE H locs ls hP hS hl => lv_sipush C.1 C.2.1 d hv (K hE H locs ls hP hS hl)
theorem j_iload_n (C : Ctx F cc nL own ret fr lo) {i : Fin 4} (d : decode cc pc = .ok (.iload_n i, 1)) (q : Nat) (hq : lv[q]? = some ((i : Nat), .int x)) (K : J F nL cv E σ (pc + 1) lv (.int x :: st)) : J F nL cv E σ pc lv st := fun hE H locs ls hP hS hl => lv_iload_n C.1 C.2.1 d rfl (lv_at hl q hq) (K hE H locs ls hP hS hl)
theorem j_iload (C : Ctx F cc nL own ret fr lo) {i : Nat} (d : decode cc pc = .ok (.iload i, 2)) (q : Nat) (hq : lv[q]? = some (i, .int x)) (K : J F nL cv E σ (pc + 2) lv (.int x :: st)) : J F nL cv E σ pc lv st := fun hE H locs ls hP hS hl => lv_iload C.1 C.2.1 d (lv_at hl q hq) (K hE H locs ls hP hS hl)
theorem j_aload_n (C : Ctx F cc nL own ret fr lo) {i : Fin 4} {a : Nat} (d : decode cc pc = .ok (.aload_n i, 1)) (q : Nat) (hq : lv[q]? = some ((i : Nat), .ref a)) (K : J F nL cv E σ (pc + 1) lv (.ref a :: st)) : J F nL cv E σ pc lv st := fun hE H locs ls hP hS hl => lv_aload_n C.1 C.2.1 d rfl (lv_at hl q hq) (K hE H locs ls hP hS hl)
theorem j_aload (C : Ctx F cc nL own ret fr lo) {i : Nat} {a : Nat} (d : decode cc pc = .ok (.aload i, 2)) (q : Nat) (hq : lv[q]? = some (i, .ref a)) (K : J F nL cv E σ (pc + 2) lv (.ref a :: st)) : J F nL cv E σ pc lv st := fun hE H locs ls hP hS hl => lv_aload C.1 C.2.1 d (lv_at hl q hq) (K hE H locs ls hP hS hl)
theorem lv_re {ls : Array Slot} {nL : Nat} {l l2 : List (Nat × Value)} (h : lv_has ls nL l) (hs : ∀ q ∈ l2, q ∈ l) : lv_has ls nL l2 := ⟨h.1, h.2.1, fun q hq => h.2.2 q (hs q hq)⟩
def lvq (i : Nat) (v : Value) (l : List (Nat × Value)) : List (Nat × Value) := l.takeWhile (fun q => decide (q.1 < i)) ++ (i, v) :: (l.dropWhile (fun q => decide (q.1 < i))).dropWhile (fun q => q.1 == i)
def lvk (i : Nat) (l : List (Nat × Value)) : Bool := ((l.dropWhile (fun q => decide (q.1 < i))).dropWhile (fun q => q.1 == i)).all (fun q => q.1 != i) && l.all (fun q => !(q.1 + 1 == i && q.2.category == 2))
theorem lvs_sub {i : Nat} {v : Value} {l l2 : List (Nat × Value)} (h : lvq i v l = l2) (hk : lvk i l = true) : ∀ q ∈ l2, q ∈ (i, v) :: l.filter (fun q => !(q.1 == i) && !(q.1 + 1 == i && q.2.category == 2)) := by
  intro q hq
  simp only [lvk, Bool.and_eq_true] at hk
  have fin : q ∈ l → q.1 ≠ i → q ∈ (i, v) :: l.filter (fun q => !(q.1 == i) && !(q.1 + 1 == i && q.2.category == 2)) := fun hm hi => by
    refine List.mem_cons_of_mem _ (List.mem_filter.mpr ⟨hm, ?_⟩)
    have h2 := List.all_eq_true.mp hk.2 q hm
    simp only [Bool.and_eq_true]
    exact ⟨by simpa using hi, h2⟩
  rw [← h, lvq] at hq
  rcases List.mem_append.mp hq with h1 | h1
  · have h3 : ∀ (l : List (Nat × Value)) (q : Nat × Value), q ∈ l.takeWhile (fun q => decide (q.1 < i)) → q.1 < i := by
      intro l
      induction l with
      | nil => intro q h; cases h
      | cons a l ih =>
        intro q h
        rw [List.takeWhile_cons] at h
        split at h
        · rename_i ha
          rcases List.mem_cons.mp h with e | e
          · rw [e]; simpa using ha
          · exact ih q e
        · cases h
    exact fin ((List.takeWhile_sublist _).subset h1) (Nat.ne_of_lt (h3 l q h1))
  · rcases List.mem_cons.mp h1 with h1 | h1
    · rw [h1]; exact List.mem_cons_self
    · exact fin ((List.dropWhile_sublist _).subset ((List.dropWhile_sublist _).subset h1)) (by simpa using List.all_eq_true.mp hk.1 q h1)
theorem j_istore_n (C : Ctx F cc nL own ret fr lo) {i : Fin 4} (d : decode cc pc = .ok (.istore_n i, 1)) (hs : lvq (i : Nat) (.int x) lv = lv9) (hu : lvk (i : Nat) lv = true) (hi : (i : Nat) < nL) (K : J F nL cv E σ (pc + 1) lv9 st) : J F nL cv E σ pc lv (.int x :: st) := fun hE H locs ls hP hS hl => lv_istore_n C.1 C.2.1 d rfl hl hi rfl (fun ls2 hl2 => K hE H locs ls2 hP hS (lv_re hl2 (lvs_sub hs hu)))
theorem j_istore (C : Ctx F cc nL own ret fr lo) {i : Nat} (d : decode cc pc = .ok (.istore i, 2)) (hs : lvq i (.int x) lv = lv9) (hu : lvk i lv = true) (hi : i < nL) (K : J F nL cv E σ (pc + 2) lv9 st) : J F nL cv E σ pc lv (.int x :: st) := fun hE H locs ls hP hS hl => lv_istore C.1 C.2.1 d hl hi rfl (fun ls2 hl2 => K hE H locs ls2 hP hS (lv_re hl2 (lvs_sub hs hu)))
theorem j_astore_n (C : Ctx F cc nL own ret fr lo) {i : Fin 4} {a : Nat} (d : decode cc pc = .ok (.astore_n i, 1)) (hs : lvq (i : Nat) (.ref a) lv = lv9) (hu : lvk (i : Nat) lv = true) (hi : (i : Nat) < nL) (K : J F nL cv E σ (pc + 1) lv9 st) : J F nL cv E σ pc lv (.ref a :: st) := fun hE H locs ls hP hS hl => lv_astore_n C.1 C.2.1 d rfl hl hi rfl (fun ls2 hl2 => K hE H locs ls2 hP hS (lv_re hl2 (lvs_sub hs hu)))
theorem j_astore (C : Ctx F cc nL own ret fr lo) {i : Nat} {a : Nat} (d : decode cc pc = .ok (.astore i, 2)) (hs : lvq i (.ref a) lv = lv9) (hu : lvk i lv = true) (hi : i < nL) (K : J F nL cv E σ (pc + 2) lv9 st) : J F nL cv E σ pc lv (.ref a :: st) := fun hE H locs ls hP hS hl => lv_astore C.1 C.2.1 d hl hi rfl (fun ls2 hl2 => K hE H locs ls2 hP hS (lv_re hl2 (lvs_sub hs hu)))
theorem j_iinc (C : Ctx F cc nL own ret fr lo) {i : Nat} {n : Int} (d : decode cc pc = .ok (.iinc i n, 3)) (q : Nat) (hq : lv[q]? = some (i, .int x)) (hv : x + Int32.ofInt n = v) (hs : lvq i (.int v) lv = lv9) (hu : lvk i lv = true) (hi : i < nL) (K : J F nL cv E σ (pc + 3) lv9 st) : J F nL cv E σ pc lv st := fun hE H locs ls hP hS hl => lv_iinc C.1 C.2.1 d hl hq hv hi rfl (fun ls2 hl2 => K hE H locs ls2 hP hS (lv_re hl2 (lvs_sub hs hu)))
theorem j_iadd (C : Ctx F cc nL own ret fr lo) (d : decode cc pc = .ok (.iadd, 1)) (K : J F nL cv E σ (pc + 1) lv (.int (x + y) :: st)) : J F nL cv E σ pc lv (.int y :: .int x :: st) := fun hE H locs ls hP hS hl => lv_iadd C.1 C.2.1 d (K hE H locs ls hP hS hl)
theorem j_isub (C : Ctx F cc nL own ret fr lo) (d : decode cc pc = .ok (.isub, 1)) (K : J F nL cv E σ (pc + 1) lv (.int (x - y) :: st)) : J F nL cv E σ pc lv (.int y :: .int x :: st) := fun hE H locs ls hP hS hl => lv_isub C.1 C.2.1 d (K hE H locs ls hP hS hl)
theorem j_imul (C : Ctx F cc nL own ret fr lo) (d : decode cc pc = .ok (.imul, 1)) (K : J F nL cv E σ (pc + 1) lv (.int (x * y) :: st)) : J F nL cv E σ pc lv (.int y :: .int x :: st) := fun hE H locs ls hP hS hl => lv_imul C.1 C.2.1 d (K hE H locs ls hP hS hl)
theorem j_iand (C : Ctx F cc nL own ret fr lo) (d : decode cc pc = .ok (.iand, 1)) (K : J F nL cv E σ (pc + 1) lv (.int (x &&& y) :: st)) : J F nL cv E σ pc lv (.int y :: .int x :: st) := fun hE H locs ls hP hS hl => lv_iand C.1 C.2.1 d (K hE H locs ls hP hS hl)
theorem j_ior (C : Ctx F cc nL own ret fr lo) (d : decode cc pc = .ok (.ior, 1)) (K : J F nL cv E σ (pc + 1) lv (.int (x ||| y) :: st)) : J F nL cv E σ pc lv (.int y :: .int x :: st) := fun hE H locs ls hP hS hl => lv_ior C.1 C.2.1 d (K hE H locs ls hP hS hl)
theorem j_ixor (C : Ctx F cc nL own ret fr lo) (d : decode cc pc = .ok (.ixor, 1)) (K : J F nL cv E σ (pc + 1) lv (.int (x ^^^ y) :: st)) : J F nL cv E σ pc lv (.int y :: .int x :: st) := fun hE H locs ls hP hS hl => lv_ixor C.1 C.2.1 d (K hE H locs ls hP hS hl)
theorem j_ishl (C : Ctx F cc nL own ret fr lo) (d : decode cc pc = .ok (.ishl, 1)) (K : J F nL cv E σ (pc + 1) lv (.int (x <<< (y &&& 31)) :: st)) : J F nL cv E σ pc lv (.int y :: .int x :: st) := fun hE H locs ls hP hS hl => lv_ishl C.1 C.2.1 d (K hE H locs ls hP hS hl)
theorem j_ishr (C : Ctx F cc nL own ret fr lo) (d : decode cc pc = .ok (.ishr, 1)) (K : J F nL cv E σ (pc + 1) lv (.int (x >>> (y &&& 31)) :: st)) : J F nL cv E σ pc lv (.int y :: .int x :: st) := fun hE H locs ls hP hS hl => lv_ishr C.1 C.2.1 d (K hE H locs ls hP hS hl)
theorem j_idiv (C : Ctx F cc nL own ret fr lo) (d : decode cc pc = .ok (.idiv, 1)) (hne : ¬ y = 0) (K : J F nL cv E σ (pc + 1) lv (.int (x / y) :: st)) : J F nL cv E σ pc lv (.int y :: .int x :: st) := fun hE H locs ls hP hS hl => lv_idiv C.1 C.2.1 d hne (K hE H locs ls hP hS hl)
theorem j_irem (C : Ctx F cc nL own ret fr lo) (d : decode cc pc = .ok (.irem, 1)) (hne : ¬ y = 0) (K : J F nL cv E σ (pc + 1) lv (.int (x - x / y * y) :: st)) : J F nL cv E σ pc lv (.int y :: .int x :: st) := fun hE H locs ls hP hS hl => lv_irem C.1 C.2.1 d hne (K hE H locs ls hP hS hl)
theorem j_ineg (C : Ctx F cc nL own ret fr lo) (d : decode cc pc = .ok (.ineg, 1)) (K : J F nL cv E σ (pc + 1) lv (.int (-x) :: st)) : J F nL cv E σ pc lv (.int x :: st) := fun hE H locs ls hP hS hl => lv_ineg C.1 C.2.1 d (K hE H locs ls hP hS hl)
theorem j_dup (C : Ctx F cc nL own ret fr lo) {z : Value} (d : decode cc pc = .ok (.dup, 1)) (hz : z.category = 1) (K : J F nL cv E σ (pc + 1) lv (z :: z :: st)) : J F nL cv E σ pc lv (z :: st) := fun hE H locs ls hP hS hl => lv_dup C.1 C.2.1 d hz (K hE H locs ls hP hS hl)
theorem j_pop (C : Ctx F cc nL own ret fr lo) {z : Value} (d : decode cc pc = .ok (.pop, 1)) (hz : z.category = 1) (K : J F nL cv E σ (pc + 1) lv st) : J F nL cv E σ pc lv (z :: st) := fun hE H locs ls hP hS hl => lv_pop C.1 C.2.1 d hz (K hE H locs ls hP hS hl)
theorem j_dup2 (C : Ctx F cc nL own ret fr lo) {z z2 : Value} (d : decode cc pc = .ok (.dup2, 1)) (hz : z.category = 1) (hz2 : z2.category = 1) (K : J F nL cv E σ (pc + 1) lv (z :: z2 :: z :: z2 :: st)) : J F nL cv E σ pc lv (z :: z2 :: st) := fun hE H locs ls hP hS hl => lv_dup2_11 C.1 C.2.1 d hz hz2 (K hE H locs ls hP hS hl)
theorem j_dup_x1 (C : Ctx F cc nL own ret fr lo) {z z2 : Value} (d : decode cc pc = .ok (.dup_x1, 1)) (hz : z.category = 1) (hz2 : z2.category = 1) (K : J F nL cv E σ (pc + 1) lv (z :: z2 :: z :: st)) : J F nL cv E σ pc lv (z :: z2 :: st) := fun hE H locs ls hP hS hl => lv_dup_x1 C.1 C.2.1 d hz hz2 (K hE H locs ls hP hS hl)
theorem j_goto (C : Ctx F cc nL own ret fr lo) {off : Int} {tgt : Nat} (d : decode cc pc = .ok (.goto off, 3)) (ht : (pc : Int) + off = (tgt : Int)) (K : J F nL cv E σ tgt lv st) : J F nL cv E σ pc lv st := fun hE H locs ls hP hS hl => lv_goto C.1 C.2.1 d ht (K hE H locs ls hP hS hl)
theorem j_if_eq (C : Ctx F cc nL own ret fr lo) {off : Int} {tgt : Nat} (d : decode cc pc = .ok (.ifCond .eq off, 3)) (ht : (pc : Int) + off = (tgt : Int)) (k1 : x = 0 → J F nL cv A σ tgt lv st) (k2 : ¬ x = 0 → J F nL cv B σ (pc + 3) lv st) : J F nL cv (if x = 0 then A else B) σ pc lv (.int x :: st) := fun hE H locs ls hP hS hl => lv_if_eq C.1 C.2.1 d ht (fun c => k1 c (by rw [if_pos c] at hE; exact hE) H locs ls hP hS hl) (fun c => k2 c (by rw [if_neg c] at hE; exact hE) H locs ls hP hS hl)
theorem d_if_eq (C : Ctx F cc nL own ret fr lo) {off : Int} {tgt jp : Nat} {a b : Int32} (d : decode cc pc = .ok (.ifCond .eq off, 3)) (ht : (pc : Int) + off = (tgt : Int)) (k1 : x = 0 → J F nL cv E σ jp lv (.int a :: st) → J F nL cv E σ tgt lv st) (k2 : ¬ x = 0 → J F nL cv E σ jp lv (.int b :: st) → J F nL cv E σ (pc + 3) lv st) (K : J F nL cv E σ jp lv (.int (if x = 0 then a else b) :: st)) : J F nL cv E σ pc lv (.int x :: st) := fun hE H locs ls hP hS hl => lv_if_eq C.1 C.2.1 d ht (fun c => k1 c (by rw [if_pos c] at K; exact K) hE H locs ls hP hS hl) (fun c => k2 c (by rw [if_neg c] at K; exact K) hE H locs ls hP hS hl)
theorem j_icmp_eq (C : Ctx F cc nL own ret fr lo) {off : Int} {tgt : Nat} (d : decode cc pc = .ok (.if_icmp .eq off, 3)) (ht : (pc : Int) + off = (tgt : Int)) (k1 : x = y → J F nL cv A σ tgt lv st) (k2 : ¬ x = y → J F nL cv B σ (pc + 3) lv st) : J F nL cv (if x = y then A else B) σ pc lv (.int y :: .int x :: st) := fun hE H locs ls hP hS hl => lv_icmp_eq C.1 C.2.1 d ht (fun c => k1 c (by rw [if_pos c] at hE; exact hE) H locs ls hP hS hl) (fun c => k2 c (by rw [if_neg c] at hE; exact hE) H locs ls hP hS hl)
theorem d_icmp_eq (C : Ctx F cc nL own ret fr lo) {off : Int} {tgt jp : Nat} {a b : Int32} (d : decode cc pc = .ok (.if_icmp .eq off, 3)) (ht : (pc : Int) + off = (tgt : Int)) (k1 : x = y → J F nL cv E σ jp lv (.int a :: st) → J F nL cv E σ tgt lv st) (k2 : ¬ x = y → J F nL cv E σ jp lv (.int b :: st) → J F nL cv E σ (pc + 3) lv st) (K : J F nL cv E σ jp lv (.int (if x = y then a else b) :: st)) : J F nL cv E σ pc lv (.int y :: .int x :: st) := fun hE H locs ls hP hS hl => lv_icmp_eq C.1 C.2.1 d ht (fun c => k1 c (by rw [if_pos c] at K; exact K) hE H locs ls hP hS hl) (fun c => k2 c (by rw [if_neg c] at K; exact K) hE H locs ls hP hS hl)
theorem j_if_ne (C : Ctx F cc nL own ret fr lo) {off : Int} {tgt : Nat} (d : decode cc pc = .ok (.ifCond .ne off, 3)) (ht : (pc : Int) + off = (tgt : Int)) (k1 : ¬ x = 0 → J F nL cv B σ tgt lv st) (k2 : x = 0 → J F nL cv A σ (pc + 3) lv st) : J F nL cv (if x = 0 then A else B) σ pc lv (.int x :: st) := fun hE H locs ls hP hS hl => lv_if_ne C.1 C.2.1 d ht (fun c => k1 c (by rw [if_neg c] at hE; exact hE) H locs ls hP hS hl) (fun c => k2 c (by rw [if_pos c] at hE; exact hE) H locs ls hP hS hl)
theorem d_if_ne (C : Ctx F cc nL own ret fr lo) {off : Int} {tgt jp : Nat} {a b : Int32} (d : decode cc pc = .ok (.ifCond .ne off, 3)) (ht : (pc : Int) + off = (tgt : Int)) (k1 : ¬ x = 0 → J F nL cv E σ jp lv (.int b :: st) → J F nL cv E σ tgt lv st) (k2 : x = 0 → J F nL cv E σ jp lv (.int a :: st) → J F nL cv E σ (pc + 3) lv st) (K : J F nL cv E σ jp lv (.int (if x = 0 then a else b) :: st)) : J F nL cv E σ pc lv (.int x :: st) := fun hE H locs ls hP hS hl => lv_if_ne C.1 C.2.1 d ht (fun c => k1 c (by rw [if_neg c] at K; exact K) hE H locs ls hP hS hl) (fun c => k2 c (by rw [if_pos c] at K; exact K) hE H locs ls hP hS hl)
theorem j_icmp_ne (C : Ctx F cc nL own ret fr lo) {off : Int} {tgt : Nat} (d : decode cc pc = .ok (.if_icmp .ne off, 3)) (ht : (pc : Int) + off = (tgt : Int)) (k1 : ¬ x = y → J F nL cv B σ tgt lv st) (k2 : x = y → J F nL cv A σ (pc + 3) lv st) : J F nL cv (if x = y then A else B) σ pc lv (.int y :: .int x :: st) := fun hE H locs ls hP hS hl => lv_icmp_ne C.1 C.2.1 d ht (fun c => k1 c (by rw [if_neg c] at hE; exact hE) H locs ls hP hS hl) (fun c => k2 c (by rw [if_pos c] at hE; exact hE) H locs ls hP hS hl)
theorem d_icmp_ne (C : Ctx F cc nL own ret fr lo) {off : Int} {tgt jp : Nat} {a b : Int32} (d : decode cc pc = .ok (.if_icmp .ne off, 3)) (ht : (pc : Int) + off = (tgt : Int)) (k1 : ¬ x = y → J F nL cv E σ jp lv (.int b :: st) → J F nL cv E σ tgt lv st) (k2 : x = y → J F nL cv E σ jp lv (.int a :: st) → J F nL cv E σ (pc + 3) lv st) (K : J F nL cv E σ jp lv (.int (if x = y then a else b) :: st)) : J F nL cv E σ pc lv (.int y :: .int x :: st) := fun hE H locs ls hP hS hl => lv_icmp_ne C.1 C.2.1 d ht (fun c => k1 c (by rw [if_neg c] at K; exact K) hE H locs ls hP hS hl) (fun c => k2 c (by rw [if_pos c] at K; exact K) hE H locs ls hP hS hl)
theorem j_if_lt (C : Ctx F cc nL own ret fr lo) {off : Int} {tgt : Nat} (d : decode cc pc = .ok (.ifCond .lt off, 3)) (ht : (pc : Int) + off = (tgt : Int)) (k1 : x < 0 → J F nL cv A σ tgt lv st) (k2 : ¬ x < 0 → J F nL cv B σ (pc + 3) lv st) : J F nL cv (if x < 0 then A else B) σ pc lv (.int x :: st) := fun hE H locs ls hP hS hl => lv_if_lt C.1 C.2.1 d ht (fun c => k1 c (by rw [if_pos c] at hE; exact hE) H locs ls hP hS hl) (fun c => k2 c (by rw [if_neg c] at hE; exact hE) H locs ls hP hS hl)
theorem d_if_lt (C : Ctx F cc nL own ret fr lo) {off : Int} {tgt jp : Nat} {a b : Int32} (d : decode cc pc = .ok (.ifCond .lt off, 3)) (ht : (pc : Int) + off = (tgt : Int)) (k1 : x < 0 → J F nL cv E σ jp lv (.int a :: st) → J F nL cv E σ tgt lv st) (k2 : ¬ x < 0 → J F nL cv E σ jp lv (.int b :: st) → J F nL cv E σ (pc + 3) lv st) (K : J F nL cv E σ jp lv (.int (if x < 0 then a else b) :: st)) : J F nL cv E σ pc lv (.int x :: st) := fun hE H locs ls hP hS hl => lv_if_lt C.1 C.2.1 d ht (fun c => k1 c (by rw [if_pos c] at K; exact K) hE H locs ls hP hS hl) (fun c => k2 c (by rw [if_neg c] at K; exact K) hE H locs ls hP hS hl)
theorem j_icmp_lt (C : Ctx F cc nL own ret fr lo) {off : Int} {tgt : Nat} (d : decode cc pc = .ok (.if_icmp .lt off, 3)) (ht : (pc : Int) + off = (tgt : Int)) (k1 : x < y → J F nL cv A σ tgt lv st) (k2 : ¬ x < y → J F nL cv B σ (pc + 3) lv st) : J F nL cv (if x < y then A else B) σ pc lv (.int y :: .int x :: st) := fun hE H locs ls hP hS hl => lv_icmp_lt C.1 C.2.1 d ht (fun c => k1 c (by rw [if_pos c] at hE; exact hE) H locs ls hP hS hl) (fun c => k2 c (by rw [if_neg c] at hE; exact hE) H locs ls hP hS hl)
theorem d_icmp_lt (C : Ctx F cc nL own ret fr lo) {off : Int} {tgt jp : Nat} {a b : Int32} (d : decode cc pc = .ok (.if_icmp .lt off, 3)) (ht : (pc : Int) + off = (tgt : Int)) (k1 : x < y → J F nL cv E σ jp lv (.int a :: st) → J F nL cv E σ tgt lv st) (k2 : ¬ x < y → J F nL cv E σ jp lv (.int b :: st) → J F nL cv E σ (pc + 3) lv st) (K : J F nL cv E σ jp lv (.int (if x < y then a else b) :: st)) : J F nL cv E σ pc lv (.int y :: .int x :: st) := fun hE H locs ls hP hS hl => lv_icmp_lt C.1 C.2.1 d ht (fun c => k1 c (by rw [if_pos c] at K; exact K) hE H locs ls hP hS hl) (fun c => k2 c (by rw [if_neg c] at K; exact K) hE H locs ls hP hS hl)
theorem j_if_ge (C : Ctx F cc nL own ret fr lo) {off : Int} {tgt : Nat} (d : decode cc pc = .ok (.ifCond .ge off, 3)) (ht : (pc : Int) + off = (tgt : Int)) (k1 : 0 ≤ x → J F nL cv A σ tgt lv st) (k2 : ¬ 0 ≤ x → J F nL cv B σ (pc + 3) lv st) : J F nL cv (if 0 ≤ x then A else B) σ pc lv (.int x :: st) := fun hE H locs ls hP hS hl => lv_if_ge C.1 C.2.1 d ht (fun c => k1 c (by rw [if_pos c] at hE; exact hE) H locs ls hP hS hl) (fun c => k2 c (by rw [if_neg c] at hE; exact hE) H locs ls hP hS hl)
theorem d_if_ge (C : Ctx F cc nL own ret fr lo) {off : Int} {tgt jp : Nat} {a b : Int32} (d : decode cc pc = .ok (.ifCond .ge off, 3)) (ht : (pc : Int) + off = (tgt : Int)) (k1 : 0 ≤ x → J F nL cv E σ jp lv (.int a :: st) → J F nL cv E σ tgt lv st) (k2 : ¬ 0 ≤ x → J F nL cv E σ jp lv (.int b :: st) → J F nL cv E σ (pc + 3) lv st) (K : J F nL cv E σ jp lv (.int (if 0 ≤ x then a else b) :: st)) : J F nL cv E σ pc lv (.int x :: st) := fun hE H locs ls hP hS hl => lv_if_ge C.1 C.2.1 d ht (fun c => k1 c (by rw [if_pos c] at K; exact K) hE H locs ls hP hS hl) (fun c => k2 c (by rw [if_neg c] at K; exact K) hE H locs ls hP hS hl)
theorem j_icmp_ge (C : Ctx F cc nL own ret fr lo) {off : Int} {tgt : Nat} (d : decode cc pc = .ok (.if_icmp .ge off, 3)) (ht : (pc : Int) + off = (tgt : Int)) (k1 : y ≤ x → J F nL cv A σ tgt lv st) (k2 : ¬ y ≤ x → J F nL cv B σ (pc + 3) lv st) : J F nL cv (if y ≤ x then A else B) σ pc lv (.int y :: .int x :: st) := fun hE H locs ls hP hS hl => lv_icmp_ge C.1 C.2.1 d ht (fun c => k1 c (by rw [if_pos c] at hE; exact hE) H locs ls hP hS hl) (fun c => k2 c (by rw [if_neg c] at hE; exact hE) H locs ls hP hS hl)
theorem d_icmp_ge (C : Ctx F cc nL own ret fr lo) {off : Int} {tgt jp : Nat} {a b : Int32} (d : decode cc pc = .ok (.if_icmp .ge off, 3)) (ht : (pc : Int) + off = (tgt : Int)) (k1 : y ≤ x → J F nL cv E σ jp lv (.int a :: st) → J F nL cv E σ tgt lv st) (k2 : ¬ y ≤ x → J F nL cv E σ jp lv (.int b :: st) → J F nL cv E σ (pc + 3) lv st) (K : J F nL cv E σ jp lv (.int (if y ≤ x then a else b) :: st)) : J F nL cv E σ pc lv (.int y :: .int x :: st) := fun hE H locs ls hP hS hl => lv_icmp_ge C.1 C.2.1 d ht (fun c => k1 c (by rw [if_pos c] at K; exact K) hE H locs ls hP hS hl) (fun c => k2 c (by rw [if_neg c] at K; exact K) hE H locs ls hP hS hl)
theorem j_if_gt (C : Ctx F cc nL own ret fr lo) {off : Int} {tgt : Nat} (d : decode cc pc = .ok (.ifCond .gt off, 3)) (ht : (pc : Int) + off = (tgt : Int)) (k1 : 0 < x → J F nL cv A σ tgt lv st) (k2 : ¬ 0 < x → J F nL cv B σ (pc + 3) lv st) : J F nL cv (if 0 < x then A else B) σ pc lv (.int x :: st) := fun hE H locs ls hP hS hl => lv_if_gt C.1 C.2.1 d ht (fun c => k1 c (by rw [if_pos c] at hE; exact hE) H locs ls hP hS hl) (fun c => k2 c (by rw [if_neg c] at hE; exact hE) H locs ls hP hS hl)
theorem d_if_gt (C : Ctx F cc nL own ret fr lo) {off : Int} {tgt jp : Nat} {a b : Int32} (d : decode cc pc = .ok (.ifCond .gt off, 3)) (ht : (pc : Int) + off = (tgt : Int)) (k1 : 0 < x → J F nL cv E σ jp lv (.int a :: st) → J F nL cv E σ tgt lv st) (k2 : ¬ 0 < x → J F nL cv E σ jp lv (.int b :: st) → J F nL cv E σ (pc + 3) lv st) (K : J F nL cv E σ jp lv (.int (if 0 < x then a else b) :: st)) : J F nL cv E σ pc lv (.int x :: st) := fun hE H locs ls hP hS hl => lv_if_gt C.1 C.2.1 d ht (fun c => k1 c (by rw [if_pos c] at K; exact K) hE H locs ls hP hS hl) (fun c => k2 c (by rw [if_neg c] at K; exact K) hE H locs ls hP hS hl)
theorem j_icmp_gt (C : Ctx F cc nL own ret fr lo) {off : Int} {tgt : Nat} (d : decode cc pc = .ok (.if_icmp .gt off, 3)) (ht : (pc : Int) + off = (tgt : Int)) (k1 : y < x → J F nL cv A σ tgt lv st) (k2 : ¬ y < x → J F nL cv B σ (pc + 3) lv st) : J F nL cv (if y < x then A else B) σ pc lv (.int y :: .int x :: st) := fun hE H locs ls hP hS hl => lv_icmp_gt C.1 C.2.1 d ht (fun c => k1 c (by rw [if_pos c] at hE; exact hE) H locs ls hP hS hl) (fun c => k2 c (by rw [if_neg c] at hE; exact hE) H locs ls hP hS hl)
theorem d_icmp_gt (C : Ctx F cc nL own ret fr lo) {off : Int} {tgt jp : Nat} {a b : Int32} (d : decode cc pc = .ok (.if_icmp .gt off, 3)) (ht : (pc : Int) + off = (tgt : Int)) (k1 : y < x → J F nL cv E σ jp lv (.int a :: st) → J F nL cv E σ tgt lv st) (k2 : ¬ y < x → J F nL cv E σ jp lv (.int b :: st) → J F nL cv E σ (pc + 3) lv st) (K : J F nL cv E σ jp lv (.int (if y < x then a else b) :: st)) : J F nL cv E σ pc lv (.int y :: .int x :: st) := fun hE H locs ls hP hS hl => lv_icmp_gt C.1 C.2.1 d ht (fun c => k1 c (by rw [if_pos c] at K; exact K) hE H locs ls hP hS hl) (fun c => k2 c (by rw [if_neg c] at K; exact K) hE H locs ls hP hS hl)
theorem j_if_le (C : Ctx F cc nL own ret fr lo) {off : Int} {tgt : Nat} (d : decode cc pc = .ok (.ifCond .le off, 3)) (ht : (pc : Int) + off = (tgt : Int)) (k1 : x ≤ 0 → J F nL cv A σ tgt lv st) (k2 : ¬ x ≤ 0 → J F nL cv B σ (pc + 3) lv st) : J F nL cv (if x ≤ 0 then A else B) σ pc lv (.int x :: st) := fun hE H locs ls hP hS hl => lv_if_le C.1 C.2.1 d ht (fun c => k1 c (by rw [if_pos c] at hE; exact hE) H locs ls hP hS hl) (fun c => k2 c (by rw [if_neg c] at hE; exact hE) H locs ls hP hS hl)
theorem d_if_le (C : Ctx F cc nL own ret fr lo) {off : Int} {tgt jp : Nat} {a b : Int32} (d : decode cc pc = .ok (.ifCond .le off, 3)) (ht : (pc : Int) + off = (tgt : Int)) (k1 : x ≤ 0 → J F nL cv E σ jp lv (.int a :: st) → J F nL cv E σ tgt lv st) (k2 : ¬ x ≤ 0 → J F nL cv E σ jp lv (.int b :: st) → J F nL cv E σ (pc + 3) lv st) (K : J F nL cv E σ jp lv (.int (if x ≤ 0 then a else b) :: st)) : J F nL cv E σ pc lv (.int x :: st) := fun hE H locs ls hP hS hl => lv_if_le C.1 C.2.1 d ht (fun c => k1 c (by rw [if_pos c] at K; exact K) hE H locs ls hP hS hl) (fun c => k2 c (by rw [if_neg c] at K; exact K) hE H locs ls hP hS hl)
theorem j_icmp_le (C : Ctx F cc nL own ret fr lo) {off : Int} {tgt : Nat} (d : decode cc pc = .ok (.if_icmp .le off, 3)) (ht : (pc : Int) + off = (tgt : Int)) (k1 : x ≤ y → J F nL cv A σ tgt lv st) (k2 : ¬ x ≤ y → J F nL cv B σ (pc + 3) lv st) : J F nL cv (if x ≤ y then A else B) σ pc lv (.int y :: .int x :: st) := fun hE H locs ls hP hS hl => lv_icmp_le C.1 C.2.1 d ht (fun c => k1 c (by rw [if_pos c] at hE; exact hE) H locs ls hP hS hl) (fun c => k2 c (by rw [if_neg c] at hE; exact hE) H locs ls hP hS hl)
theorem d_icmp_le (C : Ctx F cc nL own ret fr lo) {off : Int} {tgt jp : Nat} {a b : Int32} (d : decode cc pc = .ok (.if_icmp .le off, 3)) (ht : (pc : Int) + off = (tgt : Int)) (k1 : x ≤ y → J F nL cv E σ jp lv (.int a :: st) → J F nL cv E σ tgt lv st) (k2 : ¬ x ≤ y → J F nL cv E σ jp lv (.int b :: st) → J F nL cv E σ (pc + 3) lv st) (K : J F nL cv E σ jp lv (.int (if x ≤ y then a else b) :: st)) : J F nL cv E σ pc lv (.int y :: .int x :: st) := fun hE H locs ls hP hS hl => lv_icmp_le C.1 C.2.1 d ht (fun c => k1 c (by rw [if_pos c] at K; exact K) hE H locs ls hP hS hl) (fun c => k2 c (by rw [if_neg c] at K; exact K) hE H locs ls hP hS hl)
theorem j_nm {e : Int32} {Kf : Int32 → β} (K : ∀ v, v = e → J F nL cv (Kf v) σ pc lv (.int v :: st)) : J F nL cv (lt e Kf) σ pc lv (.int e :: st) := K e rfl
end JR
theorem leaf_eq {a b : Rs} (h : some a = some b) : b = a := (Option.some.inj h).symm
theorem ite01 {c : Prop} [Decidable c] {a b : Int32} (ha : a = 0 ∨ a = 1) (hb : b = 0 ∨ b = 1) : (if c then a else b) = 0 ∨ (if c then a else b) = 1 := by split <;> assumption
theorem eq01 {a b : Int32} (h : a = b) (hb : b = 0 ∨ b = 1) : a = 0 ∨ a = 1 := by rw [h]; exact hb
abbrev cvI (σ : Mem) : Int32 → Option Rs := fun r => some (.inl (some (.int r)), σ)
abbrev cvIM : Int32 × Mem → Option Rs := fun q => some (.inl (some (.int q.1)), q.2)
abbrev cvM : Mem → Option Rs := fun σ => some (.inl none, σ)
abbrev cvXI (σ : Mem) : Int32 ⊕ Nat → Option Rs := fun q => match q with | .inl r => some (.inl (some (.int r)), σ) | .inr n => some (.inr n, σ)
abbrev cvXIM : (Int32 ⊕ Nat) × Mem → Option Rs := fun q => match q.1 with | .inl r => some (.inl (some (.int r)), q.2) | .inr n => some (.inr n, q.2)
abbrev cvXV (σ : Mem) : Unit ⊕ Nat → Option Rs := fun q => match q with | .inl _ => some (.inl none, σ) | .inr n => some (.inr n, σ)
abbrev cvO {α : Type} (cv : α → Option Rs) : Option α → Option Rs := fun o => o.bind cv
def xcase {α β : Type} (t : α ⊕ Nat) (a : α → β) (b : Nat → β) : β := match t with | .inl v => a v | .inr n => b n
theorem j_xcase {α β : Type} {F : Fx} {nL : Nat} {cv : β → Option Rs} {σ : Mem} {pc : Nat} {lv : List (Nat × Value)} {st : List Value} {t : α ⊕ Nat} {a : α → β} {b : Nat → β} (k1 : ∀ v, t = .inl v → J F nL cv (a v) σ pc lv st) (k2 : ∀ n, t = .inr n → J F nL cv (b n) σ pc lv st) : J F nL cv (xcase t a b) σ pc lv st := by cases t with | inl v => exact k1 v rfl | inr n => exact k2 n rfl
theorem j_join0m {β : Type} {F : Fx} {nL : Nat} {cv : β → Option Rs} {σ : Mem} {pc : Nat} {lv : List (Nat × Value)} {st : List Value} {Kf : Mem → β} {G : (Mem → β) → β} (M : Nat) (L : Mem → List (Nat × Value)) (T : Mem → List Value) (hK : ∀  (τ : Mem), J F nL cv (Kf τ) τ M (L τ) (T τ)) (k : ∀ Kg : Mem → β, (∀  (τ : Mem), J F nL cv (Kg τ) τ M (L τ) (T τ)) → J F nL cv (G Kg) σ pc lv st) : J F nL cv (lt Kf G) σ pc lv st := k Kf hK
theorem j_join1 {β : Type} {F : Fx} {nL : Nat} {cv : β → Option Rs} {σ : Mem} {pc : Nat} {lv : List (Nat × Value)} {st : List Value} {Kf : Int32 → β} {G : (Int32 → β) → β} (M : Nat) (L : Int32 → List (Nat × Value)) (T : Int32 → List Value) (hK : ∀ (x0 : Int32), J F nL cv (Kf x0) σ M (L x0) (T x0)) (k : ∀ Kg : Int32 → β, (∀ (x0 : Int32), J F nL cv (Kg x0) σ M (L x0) (T x0)) → J F nL cv (G Kg) σ pc lv st) : J F nL cv (lt Kf G) σ pc lv st := k Kf hK
theorem j_join1m {β : Type} {F : Fx} {nL : Nat} {cv : β → Option Rs} {σ : Mem} {pc : Nat} {lv : List (Nat × Value)} {st : List Value} {Kf : Int32 → Mem → β} {G : (Int32 → Mem → β) → β} (M : Nat) (L : Int32 → Mem → List (Nat × Value)) (T : Int32 → Mem → List Value) (hK : ∀ (x0 : Int32) (τ : Mem), J F nL cv (Kf x0 τ) τ M (L x0 τ) (T x0 τ)) (k : ∀ Kg : Int32 → Mem → β, (∀ (x0 : Int32) (τ : Mem), J F nL cv (Kg x0 τ) τ M (L x0 τ) (T x0 τ)) → J F nL cv (G Kg) σ pc lv st) : J F nL cv (lt Kf G) σ pc lv st := k Kf hK
theorem j_join2 {β : Type} {F : Fx} {nL : Nat} {cv : β → Option Rs} {σ : Mem} {pc : Nat} {lv : List (Nat × Value)} {st : List Value} {Kf : Int32 → Int32 → β} {G : (Int32 → Int32 → β) → β} (M : Nat) (L : Int32 → Int32 → List (Nat × Value)) (T : Int32 → Int32 → List Value) (hK : ∀ (x0 : Int32) (x1 : Int32), J F nL cv (Kf x0 x1) σ M (L x0 x1) (T x0 x1)) (k : ∀ Kg : Int32 → Int32 → β, (∀ (x0 : Int32) (x1 : Int32), J F nL cv (Kg x0 x1) σ M (L x0 x1) (T x0 x1)) → J F nL cv (G Kg) σ pc lv st) : J F nL cv (lt Kf G) σ pc lv st := k Kf hK
theorem j_join2m {β : Type} {F : Fx} {nL : Nat} {cv : β → Option Rs} {σ : Mem} {pc : Nat} {lv : List (Nat × Value)} {st : List Value} {Kf : Int32 → Int32 → Mem → β} {G : (Int32 → Int32 → Mem → β) → β} (M : Nat) (L : Int32 → Int32 → Mem → List (Nat × Value)) (T : Int32 → Int32 → Mem → List Value) (hK : ∀ (x0 : Int32) (x1 : Int32) (τ : Mem), J F nL cv (Kf x0 x1 τ) τ M (L x0 x1 τ) (T x0 x1 τ)) (k : ∀ Kg : Int32 → Int32 → Mem → β, (∀ (x0 : Int32) (x1 : Int32) (τ : Mem), J F nL cv (Kg x0 x1 τ) τ M (L x0 x1 τ) (T x0 x1 τ)) → J F nL cv (G Kg) σ pc lv st) : J F nL cv (lt Kf G) σ pc lv st := k Kf hK
theorem j_join3 {β : Type} {F : Fx} {nL : Nat} {cv : β → Option Rs} {σ : Mem} {pc : Nat} {lv : List (Nat × Value)} {st : List Value} {Kf : Int32 → Int32 → Int32 → β} {G : (Int32 → Int32 → Int32 → β) → β} (M : Nat) (L : Int32 → Int32 → Int32 → List (Nat × Value)) (T : Int32 → Int32 → Int32 → List Value) (hK : ∀ (x0 : Int32) (x1 : Int32) (x2 : Int32), J F nL cv (Kf x0 x1 x2) σ M (L x0 x1 x2) (T x0 x1 x2)) (k : ∀ Kg : Int32 → Int32 → Int32 → β, (∀ (x0 : Int32) (x1 : Int32) (x2 : Int32), J F nL cv (Kg x0 x1 x2) σ M (L x0 x1 x2) (T x0 x1 x2)) → J F nL cv (G Kg) σ pc lv st) : J F nL cv (lt Kf G) σ pc lv st := k Kf hK
theorem j_join3m {β : Type} {F : Fx} {nL : Nat} {cv : β → Option Rs} {σ : Mem} {pc : Nat} {lv : List (Nat × Value)} {st : List Value} {Kf : Int32 → Int32 → Int32 → Mem → β} {G : (Int32 → Int32 → Int32 → Mem → β) → β} (M : Nat) (L : Int32 → Int32 → Int32 → Mem → List (Nat × Value)) (T : Int32 → Int32 → Int32 → Mem → List Value) (hK : ∀ (x0 : Int32) (x1 : Int32) (x2 : Int32) (τ : Mem), J F nL cv (Kf x0 x1 x2 τ) τ M (L x0 x1 x2 τ) (T x0 x1 x2 τ)) (k : ∀ Kg : Int32 → Int32 → Int32 → Mem → β, (∀ (x0 : Int32) (x1 : Int32) (x2 : Int32) (τ : Mem), J F nL cv (Kg x0 x1 x2 τ) τ M (L x0 x1 x2 τ) (T x0 x1 x2 τ)) → J F nL cv (G Kg) σ pc lv st) : J F nL cv (lt Kf G) σ pc lv st := k Kf hK
theorem j_join4 {β : Type} {F : Fx} {nL : Nat} {cv : β → Option Rs} {σ : Mem} {pc : Nat} {lv : List (Nat × Value)} {st : List Value} {Kf : Int32 → Int32 → Int32 → Int32 → β} {G : (Int32 → Int32 → Int32 → Int32 → β) → β} (M : Nat) (L : Int32 → Int32 → Int32 → Int32 → List (Nat × Value)) (T : Int32 → Int32 → Int32 → Int32 → List Value) (hK : ∀ (x0 : Int32) (x1 : Int32) (x2 : Int32) (x3 : Int32), J F nL cv (Kf x0 x1 x2 x3) σ M (L x0 x1 x2 x3) (T x0 x1 x2 x3)) (k : ∀ Kg : Int32 → Int32 → Int32 → Int32 → β, (∀ (x0 : Int32) (x1 : Int32) (x2 : Int32) (x3 : Int32), J F nL cv (Kg x0 x1 x2 x3) σ M (L x0 x1 x2 x3) (T x0 x1 x2 x3)) → J F nL cv (G Kg) σ pc lv st) : J F nL cv (lt Kf G) σ pc lv st := k Kf hK
theorem j_join4m {β : Type} {F : Fx} {nL : Nat} {cv : β → Option Rs} {σ : Mem} {pc : Nat} {lv : List (Nat × Value)} {st : List Value} {Kf : Int32 → Int32 → Int32 → Int32 → Mem → β} {G : (Int32 → Int32 → Int32 → Int32 → Mem → β) → β} (M : Nat) (L : Int32 → Int32 → Int32 → Int32 → Mem → List (Nat × Value)) (T : Int32 → Int32 → Int32 → Int32 → Mem → List Value) (hK : ∀ (x0 : Int32) (x1 : Int32) (x2 : Int32) (x3 : Int32) (τ : Mem), J F nL cv (Kf x0 x1 x2 x3 τ) τ M (L x0 x1 x2 x3 τ) (T x0 x1 x2 x3 τ)) (k : ∀ Kg : Int32 → Int32 → Int32 → Int32 → Mem → β, (∀ (x0 : Int32) (x1 : Int32) (x2 : Int32) (x3 : Int32) (τ : Mem), J F nL cv (Kg x0 x1 x2 x3 τ) τ M (L x0 x1 x2 x3 τ) (T x0 x1 x2 x3 τ)) → J F nL cv (G Kg) σ pc lv st) : J F nL cv (lt Kf G) σ pc lv st := k Kf hK
theorem j_join5 {β : Type} {F : Fx} {nL : Nat} {cv : β → Option Rs} {σ : Mem} {pc : Nat} {lv : List (Nat × Value)} {st : List Value} {Kf : Int32 → Int32 → Int32 → Int32 → Int32 → β} {G : (Int32 → Int32 → Int32 → Int32 → Int32 → β) → β} (M : Nat) (L : Int32 → Int32 → Int32 → Int32 → Int32 → List (Nat × Value)) (T : Int32 → Int32 → Int32 → Int32 → Int32 → List Value) (hK : ∀ (x0 : Int32) (x1 : Int32) (x2 : Int32) (x3 : Int32) (x4 : Int32), J F nL cv (Kf x0 x1 x2 x3 x4) σ M (L x0 x1 x2 x3 x4) (T x0 x1 x2 x3 x4)) (k : ∀ Kg : Int32 → Int32 → Int32 → Int32 → Int32 → β, (∀ (x0 : Int32) (x1 : Int32) (x2 : Int32) (x3 : Int32) (x4 : Int32), J F nL cv (Kg x0 x1 x2 x3 x4) σ M (L x0 x1 x2 x3 x4) (T x0 x1 x2 x3 x4)) → J F nL cv (G Kg) σ pc lv st) : J F nL cv (lt Kf G) σ pc lv st := k Kf hK
theorem j_join5m {β : Type} {F : Fx} {nL : Nat} {cv : β → Option Rs} {σ : Mem} {pc : Nat} {lv : List (Nat × Value)} {st : List Value} {Kf : Int32 → Int32 → Int32 → Int32 → Int32 → Mem → β} {G : (Int32 → Int32 → Int32 → Int32 → Int32 → Mem → β) → β} (M : Nat) (L : Int32 → Int32 → Int32 → Int32 → Int32 → Mem → List (Nat × Value)) (T : Int32 → Int32 → Int32 → Int32 → Int32 → Mem → List Value) (hK : ∀ (x0 : Int32) (x1 : Int32) (x2 : Int32) (x3 : Int32) (x4 : Int32) (τ : Mem), J F nL cv (Kf x0 x1 x2 x3 x4 τ) τ M (L x0 x1 x2 x3 x4 τ) (T x0 x1 x2 x3 x4 τ)) (k : ∀ Kg : Int32 → Int32 → Int32 → Int32 → Int32 → Mem → β, (∀ (x0 : Int32) (x1 : Int32) (x2 : Int32) (x3 : Int32) (x4 : Int32) (τ : Mem), J F nL cv (Kg x0 x1 x2 x3 x4 τ) τ M (L x0 x1 x2 x3 x4 τ) (T x0 x1 x2 x3 x4 τ)) → J F nL cv (G Kg) σ pc lv st) : J F nL cv (lt Kf G) σ pc lv st := k Kf hK
theorem j_join6 {β : Type} {F : Fx} {nL : Nat} {cv : β → Option Rs} {σ : Mem} {pc : Nat} {lv : List (Nat × Value)} {st : List Value} {Kf : Int32 → Int32 → Int32 → Int32 → Int32 → Int32 → β} {G : (Int32 → Int32 → Int32 → Int32 → Int32 → Int32 → β) → β} (M : Nat) (L : Int32 → Int32 → Int32 → Int32 → Int32 → Int32 → List (Nat × Value)) (T : Int32 → Int32 → Int32 → Int32 → Int32 → Int32 → List Value) (hK : ∀ (x0 : Int32) (x1 : Int32) (x2 : Int32) (x3 : Int32) (x4 : Int32) (x5 : Int32), J F nL cv (Kf x0 x1 x2 x3 x4 x5) σ M (L x0 x1 x2 x3 x4 x5) (T x0 x1 x2 x3 x4 x5)) (k : ∀ Kg : Int32 → Int32 → Int32 → Int32 → Int32 → Int32 → β, (∀ (x0 : Int32) (x1 : Int32) (x2 : Int32) (x3 : Int32) (x4 : Int32) (x5 : Int32), J F nL cv (Kg x0 x1 x2 x3 x4 x5) σ M (L x0 x1 x2 x3 x4 x5) (T x0 x1 x2 x3 x4 x5)) → J F nL cv (G Kg) σ pc lv st) : J F nL cv (lt Kf G) σ pc lv st := k Kf hK
theorem j_join6m {β : Type} {F : Fx} {nL : Nat} {cv : β → Option Rs} {σ : Mem} {pc : Nat} {lv : List (Nat × Value)} {st : List Value} {Kf : Int32 → Int32 → Int32 → Int32 → Int32 → Int32 → Mem → β} {G : (Int32 → Int32 → Int32 → Int32 → Int32 → Int32 → Mem → β) → β} (M : Nat) (L : Int32 → Int32 → Int32 → Int32 → Int32 → Int32 → Mem → List (Nat × Value)) (T : Int32 → Int32 → Int32 → Int32 → Int32 → Int32 → Mem → List Value) (hK : ∀ (x0 : Int32) (x1 : Int32) (x2 : Int32) (x3 : Int32) (x4 : Int32) (x5 : Int32) (τ : Mem), J F nL cv (Kf x0 x1 x2 x3 x4 x5 τ) τ M (L x0 x1 x2 x3 x4 x5 τ) (T x0 x1 x2 x3 x4 x5 τ)) (k : ∀ Kg : Int32 → Int32 → Int32 → Int32 → Int32 → Int32 → Mem → β, (∀ (x0 : Int32) (x1 : Int32) (x2 : Int32) (x3 : Int32) (x4 : Int32) (x5 : Int32) (τ : Mem), J F nL cv (Kg x0 x1 x2 x3 x4 x5 τ) τ M (L x0 x1 x2 x3 x4 x5 τ) (T x0 x1 x2 x3 x4 x5 τ)) → J F nL cv (G Kg) σ pc lv st) : J F nL cv (lt Kf G) σ pc lv st := k Kf hK
theorem j_join0 {β : Type} {F : Fx} {nL : Nat} {cv : β → Option Rs} {σ : Mem} {pc : Nat} {lv : List (Nat × Value)} {st : List Value} {Kf : β} {G : β → β} (M : Nat) (L : List (Nat × Value)) (T : List Value) (hK : J F nL cv Kf σ M L T) (k : ∀ Kg : β, J F nL cv Kg σ M L T → J F nL cv (G Kg) σ pc lv st) : J F nL cv (lt Kf G) σ pc lv st := k Kf hK
end
section
/-! ROWS over the world: fields, arrays -/
def Is (k c : Nat) : Prop := k < wN ∧ wkd k = c
def FL (own : String) (idx c j : Nat) : Prop := ∃ q : vw_C, vcl[c]? = some q ∧ j < q.2.2 ∧ q.2.2 = wnf c ∧ c < 100 ∧ (Cond.fieldLink own idx (q.2.1 j).1 (q.2.1 j).2.1 (q.2.1 j).2.2.1 ∈ lw_tbl ∨ ∃ h, Cond.fieldLinkNest own idx (q.2.1 j).1 (q.2.1 j).2.1 (q.2.1 j).2.2.1 h ∈ lw_tbl)
section JH
variable {β : Type} {F : Fx} {nL : Nat} {cv : β → Option Rs} {E A B : β} {σ : Mem} {pc : Nat} {lv : List (Nat × Value)} {st : List Value} {cc : ByteArray} {own : String} {ret : Option FieldType} {fr lo : Nat} {x y v i : Int32} {k c j idx : Nat}
theorem Ctx.wds (C : Ctx F cc nL own ret fr lo) {w : Cond} (h : w ∈ lw_tbl) (hg : stb w = true) : w.before F.2.1.2.1 F.1.2.2.2.2 = true := C.2.2.2.2.2.2.2.2.1.2.1 w h hg _
theorem Ctx.hown (C : Ctx F cc nL own ret fr lo) : F.1.2.2.2.2.vm.findClass own = some F.2.1.1.cls := C.2.2.2.1
theorem Ctx.env (C : Ctx F cc nL own ret fr lo) : Env0 F.2.2.1 F.2.2.2.1 F.2.2.2.2.1 F.1.2.2.2.2 F.1.2.2.2.2.heap := C.2.2.2.2.2.2.2.2.1
theorem Ctx.K (C : Ctx F cc nL own ret fr lo) : va_K F.2.2.1 vcl (wtys F.2.2.2.1) F.1.2.2.2.2 := C.env.1
theorem Ctx.D (C : Ctx F cc nL own ret fr lo) (σ : Mem) : va_D (wA F.2.2.2.2.1 F.1.2.2.2.2.heap.size) (wld F.2.2.2.1 F.2.2.2.2.1 σ) := wld_D C.env.2.2.2.2.2
theorem Ctx.us (C : Ctx F cc nL own ret fr lo) {q : vw_C} (hq : vcl[c]? = some q) : ∀ w ∈ u_ws q.1 q.2.1 q.2.2, w.before F.2.1.2.1 F.1.2.2.2.2 = true := fun w hw => C.wds (us_all c q hq w hw).1 (us_all c q hq w hw).2
theorem j_getV (C : Ctx F cc nL own ret fr lo) {z : Value} (h : Is k c) (f : FL own idx c j) (hz : (if wrf c j = true then Value.ref (fad F (wtg k j)) else .int (σ k j)) = z) (d : decode cc pc = .ok (.getfield idx, 3)) (K : J F nL cv E σ (pc + 3) lv (z :: st)) : J F nL cv E σ pc lv (.ref (fad F k) :: st) := by
  intro hE H locs ls hP hS hl
  obtain ⟨q, hq, hj, hN, h100, hlk⟩ := f
  have hat := wld_obj (G := F.2.2.2.1) (ad := F.2.2.2.2.1) (σ := σ) h.1 h.2 h100
  have hv : (wfl F.2.2.2.2.1 σ k)[j]? = some z := by rw [wfl_at h.2 (hN ▸ hj)]; exact congrArg some hz
  rcases hlk with hlk | ⟨ho, hlk⟩
  · exact va_get C.1 C.2.1 (C.us hq) (fun _ h => h) C.hown C.K hP k hat hq j hj (C.wds hlk rfl) (fun _ h => h) hv d (K hE H locs ls hP hS hl)
  · exact va_getN C.1 C.2.1 (C.us hq) (fun _ h => h) C.hown C.K hP k hat hq j hj (C.wds hlk rfl) (fun _ h => h) hv d (K hE H locs ls hP hS hl)
theorem j_getI (C : Ctx F cc nL own ret fr lo) (h : Is k c) (f : FL own idx c j) (hr : wrf c j = false) (d : decode cc pc = .ok (.getfield idx, 3)) (K : J F nL cv E σ (pc + 3) lv (.int (σ k j) :: st)) : J F nL cv E σ pc lv (.ref (fad F k) :: st) := j_getV C h f (by rw [hr]; rfl) d K
theorem j_getR (C : Ctx F cc nL own ret fr lo) (h : Is k c) (f : FL own idx c j) (hr : wrf c j = true) (d : decode cc pc = .ok (.getfield idx, 3)) (K : J F nL cv E σ (pc + 3) lv (.ref (fad F (wtg k j)) :: st)) : J F nL cv E σ pc lv (.ref (fad F k) :: st) := j_getV C h f (by rw [hr]; rfl) d K
/-- a field that may be written, and of which kind -/
def FW (c j : Nat) (ty : FieldType) : Prop := ∃ q : vw_C, vcl[c]? = some q ∧ (q.2.1 j).2.2.2 = false ∧ parseFieldDescriptor (q.2.1 j).2.2.1 = some ty
theorem j_put {Kf : Mem → β} {ty : FieldType} (C : Ctx F cc nL own ret fr lo) (h : Is k c) (f : FL own idx c j) (fw : FW c j ty) (hr : wrf c j = false) (hn : narrow ty (.int v) = .int v) (hfit : fits ty (.int v) = true) (d : decode cc pc = .ok (.putfield idx, 3)) (K : ∀ σ', J F nL cv (Kf σ') σ' (pc + 3) lv st) : J F nL cv (lt (mput σ k j v) Kf) σ pc lv (.int v :: .ref (fad F k) :: st) := by
  intro hE H locs ls hP hS hl
  obtain ⟨q, hq, hj, hN, h100, hlk⟩ := f
  obtain ⟨q', hq', hfin, hd⟩ := fw
  cases Option.some.inj (hq.symm.trans hq')
  obtain ⟨ty0, hty, hnm⟩ := ty_all c q hq
  have hat := wld_obj (G := F.2.2.2.1) (ad := F.2.2.2.2.1) (σ := σ) h.1 h.2 h100
  have hset := wld_put (G := F.2.2.2.1) (ad := F.2.2.2.2.1) (σ := σ) (v := v) h.1 h.2 h100 (hN ▸ hj) hr
  have hlen : j < (wfl F.2.2.2.2.1 σ k).length := by rw [wfl_len h.2]; exact hN ▸ hj
  rcases hlk with hlk | ⟨ho, hlk⟩
  · exact va_put C.1 C.2.1 (C.us hq) (fun _ h => h) ty0 hty hnm C.hown C.K hP (C.D σ) hS k hat hq j hj (C.wds hlk rfl) (fun _ h => h) hfin hd hn hfit hlen d (fun H1 locs1 hP1 _ hS1 => K _ hE H1 locs1 ls (by rw [hset] at hP1; exact hP1) hS1 hl)
  · exact va_putN C.1 C.2.1 (C.us hq) (fun _ h => h) ty0 hty hnm C.hown C.K hP (C.D σ) hS k hat hq j hj (C.wds hlk rfl) (fun _ h => h) hfin hd hn hfit hlen d (fun H1 locs1 hP1 _ hS1 => K _ hE H1 locs1 ls (by rw [hset] at hP1; exact hP1) hS1 hl)
theorem nz01 (h : v = 0 ∨ v = 1) : narrow .boolean (.int v) = .int v := by rcases h with rfl | rfl <;> rfl
theorem j_alen (C : Ctx F cc nL own ret fr lo) (h : Is k 100) (d : decode cc pc = .ok (.arraylength, 1)) (K : J F nL cv E σ (pc + 1) lv (.int (nI (wln k)) :: st)) : J F nL cv E σ pc lv (.ref (fad F k) :: st) := by
  intro hE H locs ls hP hS hl
  exact va_alen C.1 C.2.1 C.K hP k 0 (wld_int h.1 h.2) rfl rfl d (K hE H locs ls hP hS hl)
theorem j_iald (C : Ctx F cc nL own ret fr lo) (h : Is k 100) (hin : vp_in i (wln k)) (d : decode cc pc = .ok (.iaload, 1)) (K : J F nL cv E σ (pc + 1) lv (.int (σ k i.toNatClampNeg) :: st)) : J F nL cv E σ pc lv (.int i :: .ref (fad F k) :: st) := by
  intro hE H locs ls hP hS hl
  exact va_iald C.1 C.2.1 C.K hP k 0 (wld_int h.1 h.2) rfl hin d (K hE H locs ls hP hS hl)
theorem j_zald (C : Ctx F cc nL own ret fr lo) (h : Is k 101) (hin : vp_in i (wln k)) (d : decode cc pc = .ok (.baload, 1)) (K : J F nL cv E σ (pc + 1) lv (.int (σ k i.toNatClampNeg) :: st)) : J F nL cv E σ pc lv (.int i :: .ref (fad F k) :: st) := by
  intro hE H locs ls hP hS hl
  exact va_zald C.1 C.2.1 C.K hP k 1 (wld_bool h.1 h.2) rfl hin d (K hE H locs ls hP hS hl)
theorem j_iast {Kf : Mem → β} (C : Ctx F cc nL own ret fr lo) (h : Is k 100) (hin : vp_in i (wln k)) (d : decode cc pc = .ok (.iastore, 1)) (K : ∀ σ', J F nL cv (Kf σ') σ' (pc + 1) lv st) : J F nL cv (lt (mput σ k i.toNatClampNeg v) Kf) σ pc lv (.int v :: .int i :: .ref (fad F k) :: st) := by
  intro hE H locs ls hP hS hl
  exact va_iast C.1 C.2.1 C.K hP (C.D σ) hS k 0 (wld_int h.1 h.2) rfl hin d (fun H1 locs1 hP1 _ hS1 => K _ hE H1 locs1 ls (by rw [wld_iput h.1 h.2] at hP1; exact hP1) hS1 hl)
def nz (v : Int32) : Int32 := vp_nar .boolean v
theorem j_zast {Kf : Mem → β} (C : Ctx F cc nL own ret fr lo) (h : Is k 101) (hin : vp_in i (wln k)) (d : decode cc pc = .ok (.bastore, 1)) (K : ∀ σ', J F nL cv (Kf σ') σ' (pc + 1) lv st) : J F nL cv (lt (mput σ k i.toNatClampNeg (nz v)) Kf) σ pc lv (.int v :: .int i :: .ref (fad F k) :: st) := by
  intro hE H locs ls hP hS hl
  exact va_zast C.1 C.2.1 C.K hP (C.D σ) hS k 1 (wld_bool h.1 h.2) rfl hin d (fun H1 locs1 hP1 _ hS1 => K _ hE H1 locs1 ls (by rw [show vp_nar .boolean v = nz v from rfl, wld_zput h.1 h.2] at hP1; exact hP1) hS1 hl)
/-- an index that the walk must still look at -/
def inb (i : Int32) (n : Nat) : Bool := decide (0 ≤ i) && decide (i.toNatClampNeg < n)
theorem inb_in {n : Nat} (h : inb i n = true) : vp_in i n := by
  simp only [inb, Bool.and_eq_true, decide_eq_true_eq] at h
  intro z
  rcases z with z | z
  · exact absurd h.1 (Int32.not_le.mpr z)
  · omega
theorem j_need {c : Bool} (h0 : cv B = none) (K : c = true → J F nL cv A σ pc lv st) : J F nL cv (if c = true then A else B) σ pc lv st := by
  intro hE
  by_cases h : c = true
  · rw [if_pos h] at hE
    exact K h hE
  · rw [if_neg h, h0] at hE
    cases hE
theorem vp_gd {n : Nat} (h1 : ¬ i < 0) (h2 : ¬ nI n ≤ i) (hn : n < 2 ^ 31) : vp_in i n := by
  rw [vp_in_iff]
  have a := Int32.not_lt.mp h1
  have b := Int32.not_le.mp h2
  rw [Int32.le_iff_toInt_le, Int32.toInt_zero] at a
  rw [Int32.lt_iff_toInt_lt, nI_toInt hn] at b
  exact ⟨a, b⟩
/-- a named number -/
theorem j_lt {α : Type} {e : α} {Kf : α → β} (K : J F nL cv (Kf e) σ pc lv st) : J F nL cv (lt e Kf) σ pc lv st := K
theorem j_bind {α γ : Type} {cv : Option γ → Option Rs} {g : Option α} {Kf : α → Option γ} (h0 : cv none = none) (K : ∀ q, g = some q → J F nL cv (Kf q) σ pc lv st) : J F nL cv (g.bind Kf) σ pc lv st := by
  intro hE
  cases hg : g with
  | none => rw [hg] at hE; exact absurd (hE.symm.trans h0) (fun h => by cases h)
  | some q => exact K q hg (by rw [hg] at hE; exact hE)
theorem ne_pos (h : ¬ x ≤ 0) : ¬ x = 0 := fun e => h (by rw [e]; exact Int32.le_refl 0)
theorem ne_lt (h : 0 < x) : ¬ x = 0 := fun e => absurd h (by rw [e]; decide)
end JH
end
section
/-! ROWS: ends, throws, calls -/
section JE
variable {β : Type} {F : Fx} {nL : Nat} {cv : β → Option Rs} {E : β} {σ σ1 : Mem} {pc : Nat} {lv : List (Nat × Value)} {st : List Value} {cc : ByteArray} {own : String} {ret : Option FieldType} {fr lo : Nat} {x y v : Int32} {k c idx n : Nat}
theorem QF.back {below : List Frame} {D : va_G} {G : GC} {ad : Nat → Nat} {ρ : Rs} {s : State} {o : Option Value} (hρ : ρ = (.inl o, σ)) {p : Program} {l : Launch} {e : Env} {R : Room} {m : MethodId} {args : Array Value} {meth : Method} {c : Code} {H : Heap} {locs : List Loc} {g : JFrame}
    (hP : va_P D vcl (wld G ad σ) H) (hS : va_S (wA ad s.heap.size) s.heap H locs)
    (k : W p l e R s m args below meth c H locs 0 0 (MQ below (fun _ st oc t => Out D G ad ρ st oc t) args s 0 0 (wA ad s.heap.size)) g) : W p l e R s m args below meth c H locs 0 0 (QF below D G ad ρ s) g := by
  intro T hT X
  obtain ⟨t, a1, oc, b1, b2, b3, L, b4, b5⟩ := k T hT X
  refine ⟨t, a1, oc, b1, b2, b3, L, ⟨b4.2.1, ?_⟩, b5⟩
  rw [hρ]
  exact b4.2.2
theorem j_ireti (C : Ctx F cc nL own (some .int) fr lo) (hcv : ∀ ρ, cv E = some ρ → ρ = (.inl (some (.int v)), σ)) (d : decode cc pc = .ok (.ireturn, 1)) : J F nL cv E σ pc lv [.int v] := by
  intro hE H locs ls hP hS hl
  have hρ := hcv _ hE
  have hlk := C.2.2.2.2.2.1
  refine QF.back hρ hP hS ?_
  exact W.iret C.1 C.2.1 C.2.2.2.2.1 (fun t ht hW => by rw [hρ]; exact ⟨rfl, by rw [ht]; exact hP, hS.F ht⟩) hS.2.2 d hlk
theorem j_iretz (C : Ctx F cc nL own (some .boolean) fr lo) (hcv : ∀ ρ, cv E = some ρ → ρ = (.inl (some (.int v)), σ)) (hn : narrow .boolean (.int v) = .int v) (d : decode cc pc = .ok (.ireturn, 1)) : J F nL cv E σ pc lv [.int v] := by
  intro hE H locs ls hP hS hl
  have hρ := hcv _ hE
  have hlk := C.2.2.2.2.2.1
  refine QF.back hρ hP hS ?_
  exact W.zret C.1 C.2.1 C.2.2.2.2.1 hn (fun t ht hW => by rw [hρ]; exact ⟨rfl, by rw [ht]; exact hP, hS.F ht⟩) hS.2.2 d hlk
theorem j_vret (C : Ctx F cc nL own none fr lo) (hcv : ∀ ρ, cv E = some ρ → ρ = (.inl none, σ)) (d : decode cc pc = .ok (.return_, 1)) : J F nL cv E σ pc lv [] := by
  intro hE H locs ls hP hS hl
  have hρ := hcv _ hE
  have hlk := C.2.2.2.2.2.1
  refine QF.back hρ hP hS ?_
  exact W.vret C.1 C.2.1 C.2.2.2.2.1 (fun t ht hW => by rw [hρ]; exact ⟨rfl, by rw [ht]; exact hP, hS.F ht⟩) hS.2.2 d hlk
/-- an exception that nobody here catches -/
theorem QF.thr {p : Program} {l : Launch} {e : Env} {R : Room} {s : State} {m : MethodId} {args : Array Value} {below : List Frame} {meth : Method} {c : Code} {T : State} {locs : List Loc} {D : va_G} {G : GC} {ad : Nat → Nat} {ρ : Rs} {n : Nat} {q : Addr} {ce : Cell} {g : JFrame} {cells slots : Nat}
    (X : Stand p l e R s m args below meth c T locs cells slots) (hρ : ρ = (.inr n, σ)) (hg : g.method = m) (hlk : g.locked = none) (hen : g.entered = []) (hx : ∀ x ∈ c.exceptionTable.toList, False) (hlocks : meth.locks = false) (hce : T.heap[q]? = some ce) (hv : ce.vm = .none) (hcl : s.vm.findClass (xNm n) = some ce.cls)
    (hP : va_P D vcl (wld G ad σ) T.heap) (hS : va_S (wA ad s.heap.size) s.heap T.heap locs) (hc : cells ≤ 1) (hs : slots ≤ 6) : ∃ t, Steps p.tables e below ((T.setTop g).pushFrame (.throwing q)) t ∧ QF below D G ad ρ s t := by
  obtain ⟨st1, hrun, hend, hW, hsm⟩ := X.leaveThrown q hg hlk hen (fun x hx' => (hx x hx').elim) hlocks
  refine ⟨_, st1, .threw q, hrun, hend, ?_, locs, ⟨hW, ?_⟩, hS.2.2⟩
  · rw [hρ]
    exact ⟨⟨q, ce, rfl, hce, hv, hcl⟩, hP, hS.1, hS.2.1⟩
  · rw [hρ]
    exact hsm.mono hc hs
end JE
end
section
/-! ROWS: calls -/
def ML (own : String) (idx : Nat) (y : MethodName) : Prop := Cond.methodLink own idx y ∈ lw_tbl ∨ ∃ h, Cond.methodLinkNest own idx y h ∈ lw_tbl
def MC (own : String) (idx : Nat) (y : MethodName) (bytes : ByteArray) (mL : Nat) (ret : Option FieldType) (n : Nat) : Prop :=
  ML own idx y ∧ Cond.initialized y.cls ∈ lw_tbl ∧ Cond.code y bytes mL ret ∈ lw_tbl ∧ (y.cls ≠ "java/lang/invoke/MethodHandle" ∧ y.cls ≠ "java/lang/invoke/VarHandle") ∧ (parseMethodDescriptor y.desc).map (fun d => d.parameters.length) = some n
theorem stb_code {y : MethodName} {b : ByteArray} {n : Nat} {r : Option FieldType} : stb (.code y b n r) = true := by first | rfl | simp [stb, Cond.onTables, Cond.keeps, Cond.steady]
theorem stb_ini {c : String} : stb (.initialized c) = true := by first | rfl | simp [stb, Cond.onTables, Cond.keeps, Cond.steady]
theorem stb_ml {o : String} {i : Nat} {y : MethodName} : stb (.methodLink o i y) = true := by first | rfl | simp [stb, Cond.onTables, Cond.keeps, Cond.steady]
theorem stb_inst {y : MethodName} : stb (.instanceMethod y) = true := by first | rfl | simp [stb, Cond.onTables, Cond.keeps, Cond.steady]
theorem stb_sel {c : String} {y z : MethodName} : stb (.selects c y z) = true := by first | rfl | simp [stb, Cond.onTables, Cond.keeps, Cond.steady]
theorem stb_static {y : MethodName} : stb (.static y) = true := by first | rfl | simp [stb, Cond.onTables, Cond.keeps, Cond.steady]
theorem va_S.next {ad : Nat → Nat} {H0 H H1 : Heap} {locs L : List Loc} (hS : va_S (wA ad H0.size) H0 H locs) (h1 : H.size ≤ H1.size) (h2 : ∀ q : Nat, q < H.size → ¬ wA ad H.size q → H1[q]? = H[q]?) (hL : ∀ q ∈ L, wA ad H.size q.base) : va_S (wA ad H0.size) H0 H1 (locs ++ L) := by
  refine ⟨Nat.le_trans hS.1 h1, fun q hq hn => ?_, fun q hq => ?_⟩
  · rw [h2 q (Nat.lt_of_lt_of_le hq hS.1) (fun z => hn (wA_mono hS.1 q z))]
    exact hS.2.1 q hq hn
  · rcases List.mem_append.mp hq with h | h
    · exact hS.2.2 q h
    · exact wA_mono hS.1 _ (hL q h)
section JC
variable {β : Type} {F : Fx} {nL : Nat} {cv : β → Option Rs} {E : β} {σ : Mem} {ρc : Rs} {pc : Nat} {lv : List (Nat × Value)} {st : List Value} {cc : ByteArray} {own : String} {ret rt : Option FieldType} {fr lo fr1 lo1 : Nat} {k c idx n mL : Nat} {y : MethodName} {bytes : ByteArray} {As : List Value} {z : vw_C}
theorem v_fin (C : Ctx F cc nL own ret fr lo) {H : Heap} {locs : List Loc} {ls : Array Slot} {T : State} {vm₁ : Vm} {mk : MethodId} {av : List Value} {ig : Instr} (hP : va_P F.2.2.1 vcl (wld F.2.2.2.1 F.2.2.2.2.1 σ) H) (hS : va_S (wA F.2.2.2.2.1 F.1.2.2.2.2.heap.size) F.1.2.2.2.2.heap H locs) (hl : lv_has ls nL lv) (hT : T.heap = H)
    (X : Stand F.1.1 F.1.2.1 F.1.2.2.1 F.1.2.2.2.1 F.1.2.2.2.2 F.2.1.1 F.2.1.2.1 F.2.1.2.2.1 F.2.1.2.2.2.1 F.2.1.2.2.2.2 (T.setVm vm₁) locs 0 0) (hst : ∀ target, (∀ acts, Steps F.1.1.tables F.1.2.2.1 F.2.1.2.2.1 (doInvoke F.1.2.2.1 ((T.setVm vm₁).setTop (F0 F.2.1.1 pc ls st)) acts mk av.toArray).1 target) → ∀ g, g = F0 F.2.1.1 pc ls (av.reverse ++ st) → Steps F.1.1.tables F.1.2.2.1 F.2.1.2.2.1 (T.setTop g) target)
    (hn : F.1.2.2.2.2.methodNamed? y = some mk) (hm : MC own idx y bytes mL rt n) (hct : Ctr F.1.2.1 F.2.2.1 F.2.2.2.1 F.2.2.2.2.1 y bytes mL rt fr1 lo1 av σ ρc) (hR : fr1 + 1 ≤ fr ∧ 8 + (mL + 11) + lo1 ≤ lo) (hrc : rc ρc ≤ rc F.2.2.2.2.2 ∧ rsl ρc ≤ rsl F.2.2.2.2.2) (hw : (st.map fun v => v.category).sum ≤ 8) (hd : decode cc pc = .ok (ig, 3))
    (kr : ∀ v σ', ρc = (.inl v, σ') → V F nL σ' (pc + 3) lv (v.toList ++ st)) (kx : ∀ n σ', ρc = (.inr n, σ') → F.2.2.2.2.2 = ρc) :
    ∃ t, Steps F.1.1.tables F.1.2.2.1 F.2.1.2.2.1 (T.setTop (F0 F.2.1.1 pc ls (av.reverse ++ st))) t ∧ QF F.2.1.2.2.1 F.2.2.1 F.2.2.2.1 F.2.2.2.2.1 F.2.2.2.2.2 F.1.2.2.2.2 t := by
  have hRm : F.1.2.2.2.1 = rmOf fr lo F.2.2.2.2.2 := C.2.2.2.2.2.2.2.1
  have hWU : F.1.2.2.2.2.WarmedH (T.setVm vm₁).vm := X.warmed
  have hEnv : Env0 F.2.2.1 F.2.2.2.1 F.2.2.2.2.1 (T.setVm vm₁) (T.setVm vm₁).heap := by
    have h9 : (T.setVm vm₁).heap = H := hT
    rw [h9]
    exact C.env.step hWU hS
  have hW9 : 2 * (F0 F.2.1.1 pc ls st).monitorRoom + ((F0 F.2.1.1 pc ls st).stack.map fun v => v.category).sum ≤ 8 := lv_room hw
  obtain ⟨o, T', L, X', hL, ⟨ho, hP', hF1, hF2⟩, hret, hthr⟩ := ct_go X (g := F0 F.2.1.1 pc ls st) (ig := ig) rfl (by show ls.size = _; rw [hl.1, C.2.2.1]) (by rw [C.2.1]; exact hd) hW9 (X.named hn) hct
    (hEnv.2.1 _ hm.2.2.1 stb_code _) (hEnv.2.1 _ hm.2.1 stb_ini _) (by rw [hRm]; exact hR.1) (by rw [hRm]; exact hR.2) (by rw [hRm, Nat.zero_add]; exact hrc.1) (by rw [hRm, Nat.zero_add]; exact hrc.2) (by rw [show (T.setVm vm₁).heap = H from hT]; exact hP) hEnv C.2.2.2.2.2.2.2.2.2.1
  have hTH : (T.setVm vm₁).heap = H := hT
  rw [hTH] at hF1 hF2 hL
  have hS' := hS.next hF1 hF2 hL
  obtain ⟨oc, σ'⟩ := ρc
  cases oc with
  | inl v =>
    have ho' : o = .returned v := ho
    obtain ⟨t, a1, b1⟩ := kr v σ' rfl T'.heap (locs ++ L) ls hP' hS' hl T' rfl X'
    refine ⟨t, hst t (fun acts => ?_) _ rfl, b1⟩
    rw [doInvoke_state]
    exact (hret v ho').trans a1
  | inr n =>
    obtain ⟨q, ce, ho', hce, hcv, hcl⟩ := ho
    have hcl' : F.1.2.2.2.2.vm.findClass (xNm n) = some ce.cls := by rw [← hWU.alike.findClass]; exact hcl
    obtain ⟨t, a1, b1⟩ := QF.thr X' (kx n σ' rfl) (g := F0 F.2.1.1 pc ls st) rfl rfl rfl C.2.2.2.2.2.2.1 C.2.2.2.2.2.1 hce hcv hcl' hP' hS' (by exact Nat.le_refl 1) (by exact Nat.le_refl 6)
    refine ⟨t, hst t (fun acts => ?_) _ rfl, b1⟩
    rw [doInvoke_state]
    exact (hthr q ho').trans a1
theorem v_callV (C : Ctx F cc nL own ret fr lo) (hm : MC own idx y bytes mL rt n) (hi : Cond.instanceMethod y ∈ lw_tbl) (hs : Cond.selects y.cls y y ∈ lw_tbl) (h : Is k c) (hz : vcl[c]? = some z) (hzc : z.1 = y.cls) (hn : As.length = n) (hct : Ctr F.1.2.1 F.2.2.1 F.2.2.2.1 F.2.2.2.2.1 y bytes mL rt fr1 lo1 (.ref (fad F k) :: As) σ ρc) (hR : fr1 + 1 ≤ fr ∧ 8 + (mL + 11) + lo1 ≤ lo) (hrc : rc ρc ≤ rc F.2.2.2.2.2 ∧ rsl ρc ≤ rsl F.2.2.2.2.2) (hw : (st.map fun v => v.category).sum ≤ 8) (d : decode cc pc = .ok (.invokevirtual idx, 3))
    (kr : ∀ v σ', ρc = (.inl v, σ') → V F nL σ' (pc + 3) lv (v.toList ++ st)) (kx : ∀ n σ', ρc = (.inr n, σ') → F.2.2.2.2.2 = ρc) : V F nL σ pc lv (As.reverse ++ .ref (fad F k) :: st) := by
  intro H locs ls hP hS hl T hT X
  have hc100 : c < 100 := by
    have := (List.getElem?_eq_some_iff.mp hz).1
    have h12 : vcl.length = 12 := rfl
    omega
  obtain ⟨cellB, hcB, hoB, hclB⟩ := va_recv C.K hP hz (wld_obj (G := F.2.2.2.1) (ad := F.2.2.2.2.1) (σ := σ) h.1 h.2 hc100)
  rw [hzc] at hclB
  obtain ⟨mk, methM, hnamed, hmethM, hstM, habM⟩ := Cond.instanceMethod_spec (C.wds hi stb_inst)
  obtain ⟨methM', cM, hmethM', -, -, -, -, -, -, hsigM⟩ := Cond.code_spec hnamed (C.wds hm.2.2.1 stb_code)
  cases hmethM.symm.trans hmethM'
  obtain ⟨c2, r2, m2, q1, q2, q3, q4, kP, hkP, hkPi⟩ := Cond.selects_spec (C.wds hs stb_sel)
  cases hclB.symm.trans q1
  cases (State.methodFound?_of_named hnamed hm.2.2.2.1).symm.trans q2
  cases hnamed.symm.trans q3
  have hselP : selectMethod F.1.2.2.1.platform F.1.2.2.2.2.vm cellB.cls mk = .method mk := by rw [Launch.admits_selectMethod X.admits]; exact q4
  have hlen : As.length = methM.sig.parameters.length := by
    have h2 := hm.2.2.2.2
    rw [hsigM] at h2
    rw [hn]
    exact (Option.some.inj h2).symm
  have hrev : (.ref (fad F k) :: As : List Value).reverse ++ st = As.reverse ++ .ref (fad F k) :: st := by simp
  rw [← hrev]
  have hgo : ∃ vm', Stand F.1.1 F.1.2.1 F.1.2.2.1 F.1.2.2.2.1 F.1.2.2.2.2 F.2.1.1 F.2.1.2.1 F.2.1.2.2.1 F.2.1.2.2.2.1 F.2.1.2.2.2.2 (T.setVm vm') locs 0 0 ∧ ∀ target, (∀ acts, Steps F.1.1.tables F.1.2.2.1 F.2.1.2.2.1 (doInvoke F.1.2.2.1 ((T.setVm vm').setTop { F0 F.2.1.1 pc ls (As.reverse ++ .ref (fad F k) :: st) with stack := st }) acts mk (.ref (fad F k) :: As).toArray).1 target) → Steps F.1.1.tables F.1.2.2.1 F.2.1.2.2.1 (T.setTop (F0 F.2.1.1 pc ls (As.reverse ++ .ref (fad F k) :: st))) target := by
    rcases hm.1 with hlk | ⟨ho, hlk⟩
    · exact X.invokevirtual C.1 C.hown (C.wds hlk stb_ml) hnamed hmethM hstM hkP hkPi hm.2.2.2.1 (a := fad F k) (cell := cellB) (by rw [hT]; exact hcB) (fun z h => by rw [h] at hoB; cases hoB) hselP hmethM habM hkP hkPi (g := F0 F.2.1.1 pc ls (As.reverse ++ .ref (fad F k) :: st)) rfl (argsL := As) (rest := st) hlen rfl (by rw [C.2.1]; exact d)
    · exact X.invokevirtualNest C.1 C.hown (C.wds hlk rfl) hnamed hmethM hstM hkP hkPi hm.2.2.2.1 (a := fad F k) (cell := cellB) (by rw [hT]; exact hcB) (fun z h => by rw [h] at hoB; cases hoB) hselP hmethM habM hkP hkPi (g := F0 F.2.1.1 pc ls (As.reverse ++ .ref (fad F k) :: st)) rfl (argsL := As) (rest := st) hlen rfl (by rw [C.2.1]; exact d)
  obtain ⟨vm₁, X₁, hst⟩ := hgo
  exact v_fin C hP hS hl hT X₁ (fun target h g hg => by rw [hg, hrev]; exact hst target h) hnamed hm hct hR hrc hw d kr kx
theorem v_callS (C : Ctx F cc nL own ret fr lo) (hm : MC own idx y bytes mL rt n) (hs : Cond.static y ∈ lw_tbl) (hn : As.length = n) (hct : Ctr F.1.2.1 F.2.2.1 F.2.2.2.1 F.2.2.2.2.1 y bytes mL rt fr1 lo1 As σ ρc) (hR : fr1 + 1 ≤ fr ∧ 8 + (mL + 11) + lo1 ≤ lo) (hrc : rc ρc ≤ rc F.2.2.2.2.2 ∧ rsl ρc ≤ rsl F.2.2.2.2.2) (hw : (st.map fun v => v.category).sum ≤ 8) (d : decode cc pc = .ok (.invokestatic idx, 3))
    (kr : ∀ v σ', ρc = (.inl v, σ') → V F nL σ' (pc + 3) lv (v.toList ++ st)) (kx : ∀ n σ', ρc = (.inr n, σ') → F.2.2.2.2.2 = ρc) : V F nL σ pc lv (As.reverse ++ st) := by
  intro H locs ls hP hS hl T hT X
  obtain ⟨mk, hnamed⟩ := Cond.code_named (C.wds hm.2.2.1 stb_code)
  obtain ⟨methM, cM, hmethM, -, -, -, -, -, -, hsigM⟩ := Cond.code_spec hnamed (C.wds hm.2.2.1 stb_code)
  have hstatic : methM.isStatic = true := Cond.static_spec hnamed hmethM (C.wds hs stb_static)
  obtain ⟨kP, hkP, -⟩ := className_of_methodNamed hnamed
  have hinitP : kP.init = .initialized := Cond.initialized_spec (findClass_of_methodNamed hnamed) hkP (C.wds hm.2.1 stb_ini)
  have hlen : As.length = methM.sig.parameters.length := by
    have h2 := hm.2.2.2.2
    rw [hsigM] at h2
    rw [hn]
    exact (Option.some.inj h2).symm
  have hgo : ∃ vm', Stand F.1.1 F.1.2.1 F.1.2.2.1 F.1.2.2.2.1 F.1.2.2.2.2 F.2.1.1 F.2.1.2.1 F.2.1.2.2.1 F.2.1.2.2.2.1 F.2.1.2.2.2.2 (T.setVm vm') locs 0 0 ∧ ∀ target, (∀ acts, Steps F.1.1.tables F.1.2.2.1 F.2.1.2.2.1 (doInvoke F.1.2.2.1 ((T.setVm vm').setTop { F0 F.2.1.1 pc ls (As.reverse ++ st) with stack := st }) acts mk As.toArray).1 target) → Steps F.1.1.tables F.1.2.2.1 F.2.1.2.2.1 (T.setTop (F0 F.2.1.1 pc ls (As.reverse ++ st))) target := by
    rcases hm.1 with hlk | ⟨ho, hlk⟩
    · exact X.invokestatic C.1 C.hown (C.wds hlk stb_ml) hnamed hmethM hstatic hkP hinitP hm.2.2.2.1 (g := F0 F.2.1.1 pc ls (As.reverse ++ st)) rfl (argsL := As) (rest := st) hlen rfl (by rw [C.2.1]; exact d)
    · exact X.invokestaticNest C.1 C.hown (C.wds hlk rfl) hnamed hmethM hstatic hkP hinitP hm.2.2.2.1 (g := F0 F.2.1.1 pc ls (As.reverse ++ st)) rfl (argsL := As) (rest := st) hlen rfl (by rw [C.2.1]; exact d)
  obtain ⟨vm₁, X₁, hst⟩ := hgo
  exact v_fin C hP hS hl hT X₁ (fun target h g hg => by rw [hg]; exact hst target h) hnamed hm hct hR hrc hw d kr kx
end JC
end
section
/-! METHODS: a contract out of a walk; calls in walks; throws; Math -/
def MV (own : String) (idx : Nat) (y : MethodName) (bytes : ByteArray) (mL : Nat) (ret : Option FieldType) (n c : Nat) : Prop := MC own idx y bytes mL ret n ∧ Cond.instanceMethod y ∈ lw_tbl ∧ Cond.selects y.cls y y ∈ lw_tbl ∧ ∃ z, vcl[c]? = some z ∧ z.1 = y.cls
def MS (own : String) (idx : Nat) (y : MethodName) (bytes : ByteArray) (mL : Nat) (ret : Option FieldType) (n : Nat) : Prop := MC own idx y bytes mL ret n ∧ Cond.static y ∈ lw_tbl
theorem ctr_of {l : Launch} {D : va_G} {G : GC} {ad : Nat → Nat} {y : MethodName} {bytes : ByteArray} {mL : Nat} {ret : Option FieldType} {fr lo : Nat} {av : List Value} {σ : Mem} {ρ : Rs} (hy : plainName y.cls = true) (hent : (lg_sl av).length ≤ mL)
    (body : ∀ F : Fx, F.1.2.1 = l → F.2.2 = (D, G, ad, ρ) → Ctx F bytes mL y.cls ret fr lo → V F mL σ 0 (lv_args 0 av) []) : Ctr l D G ad y bytes mL ret fr lo av σ ρ := by
  intro sz hnt
  refine MetFree.of_bodyS (code := bytes) (maxLocals := mL) (ret := ret) hy ?_ ?_
  · intro args s m h hn
    obtain ⟨meth, c, h1, h2, h3, h4, h5, h6, -, -⟩ := Cond.code_spec hn (atoms_spec (ws := [.code y bytes mL ret]) h _ List.mem_cons_self)
    exact ⟨meth, c, h1, h2, h3, h4, h5, h6⟩
  · intro p e s m args below meth c s₁ B hml hPre _
    obtain ⟨rfl, rfl, hP, hEnv⟩ := hPre
    have htab : ∀ x ∈ c.exceptionTable.toList, False := by
      obtain ⟨meth9, c9, h1, h2, -, -, -, -, h7, -⟩ := Cond.code_spec B.named (atoms_spec (ws := [.code y bytes mL ret]) B.pre _ List.mem_cons_self)
      cases Option.some.inj (h1.symm.trans B.method)
      cases Option.some.inj (h2.symm.trans (Stand.of_body B).code)
      intro x hx
      rw [Array.isEmpty_iff.mp h7] at hx
      cases hx
    have hh0 : s₁.heap = s.heap := by rw [B.state]; rfl
    have hV := body ((p, l, e, rmOf fr lo ρ, s), (m, av.toArray, below, meth, c), (D, G, ad, ρ)) rfl rfl ⟨B.exec, B.bytes, hml, findClass_of_methodNamed B.named, B.returns, B.notSynchronized, htab, rfl, hEnv, hnt, σ, hP⟩
    obtain ⟨t, a1, o, b1, b2, b3, b4⟩ := hV s.heap [] _ hP va_S.rf (lv_entry av hent) s₁ hh0 (Stand.of_body B)
    exact ⟨t, o, by rw [lg_entry_eq]; exact a1, b1, b2, b3, b4⟩
theorem ctr_J {β : Type} {cv : β → Option Rs} {E : β} {l : Launch} {D : va_G} {G : GC} {ad : Nat → Nat} {y : MethodName} {bytes : ByteArray} {mL : Nat} {ret : Option FieldType} {fr lo : Nat} {av : List Value} {σ : Mem} {ρ : Rs} (hy : plainName y.cls = true) (hent : (lg_sl av).length ≤ mL) (hE : cv E = some ρ)
    (body : ∀ F : Fx, ad = fad F → Ctx F bytes mL y.cls ret fr lo → J F mL cv E σ 0 (lv_args 0 av) []) : Ctr l D G ad y bytes mL ret fr lo av σ ρ :=
  ctr_of hy hent fun F h1 h2 C => body F (by rw [fad, h2]) C (by rw [hE, h2])
section JM
variable {β : Type} {F : Fx} {nL : Nat} {cv : β → Option Rs} {E : β} {σ σ1 : Mem} {pc : Nat} {lv : List (Nat × Value)} {st stk : List Value} {cc : ByteArray} {own : String} {ret rt : Option FieldType} {fr lo fr1 lo1 : Nat} {k c idx n mL : Nat} {y : MethodName} {bytes : ByteArray} {r x z : Int32}
abbrev CtrF (F : Fx) (y : MethodName) (bytes : ByteArray) (mL : Nat) (rt : Option FieldType) (fr1 lo1 : Nat) (av : List Value) (σ : Mem) (ρ : Rs) : Prop := Ctr F.1.2.1 F.2.2.1 F.2.2.2.1 F.2.2.2.2.1 y bytes mL rt fr1 lo1 av σ ρ
theorem j_callVi (C : Ctx F cc nL own ret fr lo) (hm : MV own idx y bytes mL rt n c) (As : List Value) (st : List Value) (h : Is k c) (hct : CtrF F y bytes mL rt fr1 lo1 (.ref (fad F k) :: As) σ (.inl (some (.int r)), σ1)) (hs : stk = As.reverse ++ .ref (fad F k) :: st) (hn : As.length = n) (hR : fr1 + 1 ≤ fr ∧ 8 + (mL + 11) + lo1 ≤ lo) (hw : (st.map fun v => v.category).sum ≤ 8) (d : decode cc pc = .ok (.invokevirtual idx, 3)) (K : J F nL cv E σ1 (pc + 3) lv (.int r :: st)) : J F nL cv E σ pc lv stk := by
  obtain ⟨hmc, hi, hse, w, hw1, hw2⟩ := hm
  subst hs
  exact fun hE => v_callV C hmc hi hse h hw1 hw2 hn hct hR ⟨Nat.zero_le _, Nat.zero_le _⟩ hw d (fun v σ' h => by cases h; exact K hE) (fun n σ' h => by cases h)
theorem j_callVv (C : Ctx F cc nL own ret fr lo) (hm : MV own idx y bytes mL rt n c) (As : List Value) (st : List Value) (h : Is k c) (hct : CtrF F y bytes mL rt fr1 lo1 (.ref (fad F k) :: As) σ (.inl none, σ1)) (hs : stk = As.reverse ++ .ref (fad F k) :: st) (hn : As.length = n) (hR : fr1 + 1 ≤ fr ∧ 8 + (mL + 11) + lo1 ≤ lo) (hw : (st.map fun v => v.category).sum ≤ 8) (d : decode cc pc = .ok (.invokevirtual idx, 3)) (K : J F nL cv E σ1 (pc + 3) lv st) : J F nL cv E σ pc lv stk := by
  obtain ⟨hmc, hi, hse, w, hw1, hw2⟩ := hm
  subst hs
  exact fun hE => v_callV C hmc hi hse h hw1 hw2 hn hct hR ⟨Nat.zero_le _, Nat.zero_le _⟩ hw d (fun v σ' h => by cases h; exact K hE) (fun n σ' h => by cases h)
theorem j_callVx {e : Nat} (C : Ctx F cc nL own ret fr lo) (hm : MV own idx y bytes mL rt n c) (As : List Value) (st : List Value) (h : Is k c) (hct : CtrF F y bytes mL rt fr1 lo1 (.ref (fad F k) :: As) σ (.inr e, σ1)) (hs : stk = As.reverse ++ .ref (fad F k) :: st) (hn : As.length = n) (hR : fr1 + 1 ≤ fr ∧ 8 + (mL + 11) + lo1 ≤ lo) (hw : (st.map fun v => v.category).sum ≤ 8) (d : decode cc pc = .ok (.invokevirtual idx, 3)) (hx : ∀ ρ, cv E = some ρ → ρ = (.inr e, σ1)) : J F nL cv E σ pc lv stk := by
  obtain ⟨hmc, hi, hse, w, hw1, hw2⟩ := hm
  subst hs
  intro hE
  have hρ := hx _ hE
  exact v_callV C hmc hi hse h hw1 hw2 hn hct hR (by rw [hρ]; exact ⟨Nat.le_refl _, Nat.le_refl _⟩) hw d (fun v σ' h => by cases h) (fun n σ' h => hρ)
theorem j_callSi (C : Ctx F cc nL own ret fr lo) (hm : MS own idx y bytes mL rt n) (As : List Value) (st : List Value) (hct : CtrF F y bytes mL rt fr1 lo1 As σ (.inl (some (.int r)), σ1)) (hs : stk = As.reverse ++ st) (hn : As.length = n) (hR : fr1 + 1 ≤ fr ∧ 8 + (mL + 11) + lo1 ≤ lo) (hw : (st.map fun v => v.category).sum ≤ 8) (d : decode cc pc = .ok (.invokestatic idx, 3)) (K : J F nL cv E σ1 (pc + 3) lv (.int r :: st)) : J F nL cv E σ pc lv stk := by
  subst hs
  exact fun hE => v_callS C hm.1 hm.2 hn hct hR ⟨Nat.zero_le _, Nat.zero_le _⟩ hw d (fun v σ' h => by cases h; exact K hE) (fun n σ' h => by cases h)
theorem j_callSv (C : Ctx F cc nL own ret fr lo) (hm : MS own idx y bytes mL rt n) (As : List Value) (st : List Value) (hct : CtrF F y bytes mL rt fr1 lo1 As σ (.inl none, σ1)) (hs : stk = As.reverse ++ st) (hn : As.length = n) (hR : fr1 + 1 ≤ fr ∧ 8 + (mL + 11) + lo1 ≤ lo) (hw : (st.map fun v => v.category).sum ≤ 8) (d : decode cc pc = .ok (.invokestatic idx, 3)) (K : J F nL cv E σ1 (pc + 3) lv st) : J F nL cv E σ pc lv stk := by
  subst hs
  exact fun hE => v_callS C hm.1 hm.2 hn hct hR ⟨Nat.zero_le _, Nat.zero_le _⟩ hw d (fun v σ' h => by cases h; exact K hE) (fun n σ' h => by cases h)
theorem j_callSx {e : Nat} (C : Ctx F cc nL own ret fr lo) (hm : MS own idx y bytes mL rt n) (As : List Value) (st : List Value) (hct : CtrF F y bytes mL rt fr1 lo1 As σ (.inr e, σ1)) (hs : stk = As.reverse ++ st) (hn : As.length = n) (hR : fr1 + 1 ≤ fr ∧ 8 + (mL + 11) + lo1 ≤ lo) (hw : (st.map fun v => v.category).sum ≤ 8) (d : decode cc pc = .ok (.invokestatic idx, 3)) (hx : ∀ ρ, cv E = some ρ → ρ = (.inr e, σ1)) : J F nL cv E σ pc lv stk := by
  subst hs
  intro hE
  have hρ := hx _ hE
  exact v_callS C hm.1 hm.2 hn hct hR (by rw [hρ]; exact ⟨Nat.le_refl _, Nat.le_refl _⟩) hw d (fun v σ' h => by cases h) (fun n σ' h => hρ)
/-- Math -/
def imax (x y : Int32) : Int32 := if x < y then y else x
def imin (x y : Int32) : Int32 := if y < x then y else x
def iabs (x : Int32) : Int32 := if 0 ≤ x then x else 0 - x
def MM (own : String) (idx : Nat) (y : MethodName) (bytes : ByteArray) (n : Nat) : Prop := Cond.methodLink own idx y ∈ lw_tbl ∧ Cond.static y ∈ lw_tbl ∧ Cond.initialized "java/lang/Math" ∈ lw_tbl ∧ Cond.code y bytes n (some .int) ∈ lw_tbl
theorem j_max {y : Int32} (C : Ctx F cc nL own ret fr lo) (hm : MM own idx Lib.Math.max.name Lib.Math.max.code 2) (hR : 1 ≤ fr ∧ (st.map fun v => v.category).sum + 13 ≤ lo) (d : decode cc pc = .ok (.invokestatic idx, 3)) (K : J F nL cv E σ (pc + 3) lv (.int (imax x y) :: st)) : J F nL cv E σ pc lv (.int y :: .int x :: st) := by
  intro hE H locs ls hP hS hl
  have hRm : F.1.2.2.2.1 = rmOf fr lo F.2.2.2.2.2 := C.2.2.2.2.2.2.2.1
  exact va_mmax C.1 C.2.1 (by rw [C.2.2.1, hl.1]) C.hown (C.wds hm.1 stb_ml) (C.wds hm.2.1 stb_static) (C.wds hm.2.2.1 stb_ini) (C.wds hm.2.2.2 stb_code) (by rw [hRm]; exact hR.1) (by rw [hRm]; exact hR.2) (Nat.zero_le _) (Nat.zero_le _) d (K hE H locs ls hP hS hl)
theorem j_min {y : Int32} (C : Ctx F cc nL own ret fr lo) (hm : MM own idx Lib.Math.min.name Lib.Math.min.code 2) (hR : 1 ≤ fr ∧ (st.map fun v => v.category).sum + 13 ≤ lo) (d : decode cc pc = .ok (.invokestatic idx, 3)) (K : J F nL cv E σ (pc + 3) lv (.int (imin x y) :: st)) : J F nL cv E σ pc lv (.int y :: .int x :: st) := by
  intro hE H locs ls hP hS hl
  have hRm : F.1.2.2.2.1 = rmOf fr lo F.2.2.2.2.2 := C.2.2.2.2.2.2.2.1
  exact va_mmin C.1 C.2.1 (by rw [C.2.2.1, hl.1]) C.hown (C.wds hm.1 stb_ml) (C.wds hm.2.1 stb_static) (C.wds hm.2.2.1 stb_ini) (C.wds hm.2.2.2 stb_code) (by rw [hRm]; exact hR.1) (by rw [hRm]; exact hR.2) (Nat.zero_le _) (Nat.zero_le _) d (K hE H locs ls hP hS hl)
theorem j_abs (C : Ctx F cc nL own ret fr lo) (hm : MM own idx Lib.Math.abs.name Lib.Math.abs.code 1) (hR : 1 ≤ fr ∧ (st.map fun v => v.category).sum + 13 ≤ lo) (d : decode cc pc = .ok (.invokestatic idx, 3)) (K : J F nL cv E σ (pc + 3) lv (.int (iabs x) :: st)) : J F nL cv E σ pc lv (.int x :: st) := by
  intro hE H locs ls hP hS hl
  have hRm : F.1.2.2.2.1 = rmOf fr lo F.2.2.2.2.2 := C.2.2.2.2.2.2.2.1
  exact va_mabs C.1 C.2.1 (by rw [C.2.2.1, hl.1]) C.hown (C.wds hm.1 stb_ml) (C.wds hm.2.1 stb_static) (C.wds hm.2.2.1 stb_ini) (C.wds hm.2.2.2 stb_code) (by rw [hRm]; exact hR.1) (by rw [hRm]; exact hR.2) (Nat.zero_le _) (Nat.zero_le _) d (K hE H locs ls hP hS hl)
theorem j_ldc (C : Ctx F cc nL own ret fr lo) (hm : Cond.constant own idx z ∈ lw_tbl) (d : decode cc pc = .ok (.ldc idx, 2)) (K : J F nL cv E σ (pc + 2) lv (.int z :: st)) : J F nL cv E σ pc lv st := fun hE H locs ls hP hS hl => lv_ldc C.1 C.2.1 C.hown (C.wds hm (by first | rfl | simp [stb, Cond.onTables, Cond.keeps, Cond.steady])) d (K hE H locs ls hP hS hl)
end JM
end
section
/-! THROWS -/
section TH
variable {p : Program} {l : Launch} {e : Env} {R R' : Room} {s : State} {m : MethodId} {args : Array Value} {below : List Frame} {meth : Method} {c : Code} {T : State} {locs : List Loc} {cells slots : Nat}
/-- where the walk stands now, told as if it began here -/
abbrev anew (s T : State) (m : MethodId) (args : Array Value) (below : List Frame) : State := (T.setVm s.vm).setFrames (.invoking m args :: below)
theorem st_anew (X : Stand p l e R s m args below meth c T locs cells slots) (hf : R'.frames ≤ R.frames) (hl : R'.locals ≤ R.locals) (hc : cells + R'.cells ≤ R.cells) (hs : slots + R'.slots ≤ R.slots) : Stand p l e R' (anew s T m args below) m args below meth c T [] 0 0 := by
  have htop : (T.setVm s.vm).topJava?.isSome := X.here.top
  have hcur := State.cur_lt_of_top htop
  have hF : (anew s T m args below).frames = .invoking m args :: below := State.frames_setFrames _ hcur
  obtain ⟨g₀, hg0⟩ := Option.isSome_iff_exists.mp htop
  obtain ⟨r, hr⟩ := State.topJava?_eq_some.mp hg0
  have hlim : e.platform.stackLimits (T.setVm s.vm).me = e.platform.stackLimits s.me := X.limits
  have hbyt : (T.setVm s.vm).me.stackBytes = s.me.stackBytes := X.bytes
  have hlocs : (anew s T m args below).localsInUse = s.localsInUse := by rw [State.localsInUse_invoking hF (meth := meth) (c := c) X.method X.code, State.localsInUse_invoking X.frames X.method X.code]
  have hroom : (anew s T m args below).hasRoom e.platform R' = true := by
    have h := X.room
    have q1 := X.heapSize
    have q2 := X.used
    simp only [State.hasRoom, Bool.and_eq_true, decide_eq_true_eq] at h ⊢
    obtain ⟨⟨⟨⟨h1, h2, h3, h4, h5, h6⟩, h7⟩, h8⟩, -⟩ := h
    rw [X.frames, List.length_cons] at h2 h3
    simp only [hF, hlocs, List.length_cons, State.stackLimits_setFrames, State.stackBytes_setFrames, hlim, hbyt]
    refine ⟨⟨⟨⟨by omega, by omega, by omega, by omega, by omega, h6⟩, ?_⟩, ?_⟩, X.book⟩
    · show T.heap.size + R'.cells ≤ e.platform.maxCells
      omega
    · show T.slotsUsed + R'.slots ≤ e.platform.maxSlots
      omega
  have hdrop : (T.heap.toList.drop T.heap.size) = [] := List.drop_eq_nil_of_le (Nat.le_of_eq Array.length_toList)
  refine ⟨X.admits, X.cas, X.clock, hF, hroom, X.hears, X.method, X.code, X.here, X.tail, X.warmed, by rw [State.stackLimits_setFrames]; rfl, by rw [State.stackBytes_setFrames]; rfl, ?_, Nat.le_refl _, Nat.le_refl _, ?_, ?_, fun a c9 h9 => ⟨c9, h9, rfl, rfl, fun _ _ => rfl⟩⟩
  · obtain ⟨z, hz, -⟩ := State.frames_cons hr
    show T.setVm s.vm = { ((T.setVm s.vm).setFrames (.invoking m args :: below)).setFrames (T.setVm s.vm).frames with heap := T.heap, slotsUsed := T.slotsUsed }
    rw [State.setFrames_setFrames, State.setFrames_self hz]
    rfl
  · show T.slotsUsed = T.slotsUsed + ((T.heap.toList.drop T.heap.size).map (·.slots.size)).sum
    rw [hdrop]; rfl
  · show ((T.heap.toList.drop T.heap.size).map (·.slots.size)).sum ≤ 0
    rw [hdrop]; exact Nat.le_refl _
end TH
theorem nb_keep {s U : State} {k n : Nat} (h : s.sameButNew ({ U with vm := s.vm } : State) [] k n) : s.heap.size ≤ U.heap.size ∧ ∀ q : Nat, q < s.heap.size → U.heap[q]? = s.heap[q]? := by
  obtain ⟨-, h2, -, -, -, h6⟩ := h
  refine ⟨h2, fun q hq => ?_⟩
  obtain ⟨c9, e1, e2, -, e4⟩ := h6 q _ (Array.getElem?_eq_getElem hq)
  have hs : c9.slots = (s.heap[q]).slots := Array.ext_getElem? fun i => e4 i (by simp)
  have h9 : c9 = s.heap[q] := by rw [hs] at e2; exact e2
  have e5 : U.heap[q]? = some c9 := e1
  rw [e5, h9, Array.getElem?_eq_getElem hq]
abbrev xSup : List String := ["java/lang/RuntimeException", "java/lang/Exception"]
abbrev xSt : List Cond := [.isRef (.static "java/lang/Throwable" "UNASSIGNED_STACK" "[Ljava/lang/StackTraceElement;"), .isRef (.static "java/lang/Throwable" "SUPPRESSED_SENTINEL" "Ljava/util/List;"), .laysStatic "java/lang/Throwable" "UNASSIGNED_STACK" "[Ljava/lang/StackTraceElement;", .laysStatic "java/lang/Throwable" "SUPPRESSED_SENTINEL" "Ljava/util/List;"]
def OX (own : String) (ik ic n : Nat) : Prop := Cond.classLink own ik (xNm n) ∈ lw_tbl ∧ Cond.instantiable (xNm n) 6 ∈ lw_tbl ∧ Cond.initialized (xNm n) ∈ lw_tbl ∧ Bundle.fit (xNm n) = true ∧ ∀ a ∈ Bundle.ownAtoms own ic (xNm n) xSup, (a ∈ lw_tbl ∧ stb a = true) ∨ a ∈ xSt
section JX
variable {β : Type} {F : Fx} {nL : Nat} {cv : β → Option Rs} {E : β} {σ : Mem} {pc : Nat} {lv : List (Nat × Value)} {st : List Value} {cc : ByteArray} {own tx : String} {ret : Option FieldType} {fr lo n ik is ic : Nat}
theorem j_throw (C : Ctx F cc nL own ret fr lo) (ho : OX own ik ic n) (hstr : (own, is, tx) ∈ strL) (hfr : 5 < fr) (hlo : (st.map fun v => v.category).sum + 82 ≤ lo)
    (d0 : decode cc pc = .ok (.new ik, 3)) (d3 : decode cc (pc + 3) = .ok (.dup, 1)) (d4 : decode cc (pc + 4) = .ok (.ldc is, 2)) (d6 : decode cc (pc + 6) = .ok (.invokespecial ic, 3)) (d9 : decode cc (pc + 9) = .ok (.athrow, 1)) (hx : ∀ ρ, cv E = some ρ → ρ = (.inr n, σ)) : J F nL cv E σ pc lv st := by
  intro hE H locs ls hP hS hl T hT X
  have hρ := hx _ hE
  have hRm : F.1.2.2.2.1 = rmOf fr lo F.2.2.2.2.2 := C.2.2.2.2.2.2.2.1
  have hRc : F.1.2.2.2.1.cells = 1 := by rw [hRm, hρ]; rfl
  have hRs : F.1.2.2.2.1.slots = 6 := by rw [hRm, hρ]; rfl
  have hRf : F.1.2.2.2.1.frames = fr := by rw [hRm]; rfl
  have hRl : F.1.2.2.2.1.locals = lo := by rw [hRm]; rfl
  obtain ⟨w1, w2, w3, hfit, hat⟩ := ho
  have hnt : F.1.2.2.1.platform.stackTraces = false := (show F.1.2.2.1.platform.stackTraces = F.1.2.1.stackTraces by rw [X.admits.platform]).trans C.2.2.2.2.2.2.2.2.2.1
  have Y := st_anew X (R' := { frames := fr, locals := lo, cells := 1, slots := 6 }) (by rw [hRf]; exact Nat.le_refl _) (by rw [hRl]; exact Nat.le_refl _) (by rw [hRc]; exact Nat.le_refl _) (by rw [hRs]; exact Nat.le_refl _)
  obtain ⟨s', hs'⟩ : ∃ z, z = anew F.1.2.2.2.2 T F.2.1.1 F.2.1.2.1 F.2.1.2.2.1 := ⟨_, rfl⟩
  rw [← hs'] at Y
  have hvm : s'.vm = F.1.2.2.2.2.vm := by rw [hs']; rfl
  have hhp : s'.heap = H := by rw [hs']; exact hT
  have hWs : F.1.2.2.2.2.WarmedH s'.vm := by rw [hvm]; exact State.WarmedH.refl _
  have hE' : Env0 F.2.2.1 F.2.2.2.1 F.2.2.2.2.1 s' s'.heap := by rw [hhp]; exact C.env.step hWs hS
  have hatoms : ∀ a ∈ Bundle.ownAtoms own ic (xNm n) xSup, a.before F.2.1.2.1 s' = true := by
    obtain ⟨a1, cl1, g1, -, -, g4⟩ := hE'.2.2.1
    obtain ⟨a2, cl2, g5, -, -, g8⟩ := hE'.2.2.2.1
    intro a ha
    rcases hat a ha with ⟨m1, m2⟩ | m1
    · exact hE'.2.1 a m1 m2 _
    · simp only [xSt, List.mem_cons, List.not_mem_nil, or_false] at m1
      rcases m1 with rfl | rfl | rfl | rfl
      · exact (g4 s' _ (Vm.Alike.refl _) g1).1
      · exact (g8 s' _ (Vm.Alike.refl _) g5).1
      · exact (g4 s' _ (Vm.Alike.refl _) g1).2
      · exact (g8 s' _ (Vm.Alike.refl _) g5).2
  have hown' : s'.vm.findClass own = some F.2.1.1.cls := by rw [hvm]; exact C.hown
  have hi2 := hE'.2.1 _ w2 (by first | rfl | simp [stb, Cond.onTables, Cond.keeps, Cond.steady]) F.2.1.2.1
  obtain ⟨cC, kC0, hfc, hkC0, -⟩ := Cond.instantiable_spec hi2
  obtain ⟨sa, hsa⟩ := hE'.2.2.2.2.1 _ hstr
  have key : W F.1.1 F.1.2.1 F.1.2.2.1 { frames := fr, locals := lo, cells := 1, slots := 6 } s' F.2.1.1 F.2.1.2.1 F.2.1.2.2.1 F.2.1.2.2.2.1 F.2.1.2.2.2.2 H [] 0 0 (fun U => U.status = .running ∧ Ended U F.2.1.2.2.1 (.threw H.size) ∧ s'.WarmedH U.vm ∧ s'.sameButNew ({ U with vm := s'.vm } : State) [] 1 6 ∧ ∃ ce, U.heap[H.size]? = some ce ∧ ce.vm = .none ∧ s'.vm.findClass (xNm n) = some ce.cls) (F0 F.2.1.1 pc ls st) := by
    refine W.newcK C.1 C.2.1 hown' (hE'.2.1 _ w1 (by first | rfl | simp [stb, Cond.onTables, Cond.keeps, Cond.steady]) _) hi2 (hE'.2.1 _ w3 stb_ini _) (g := F0 F.2.1.1 pc ls st) rfl d0 (Nat.le_refl _) (Nat.le_refl _) hfc rfl (fun H1 kC hkC hcell hsz hold => ?_)
    refine lv_dup C.1 C.2.1 d3 rfl ?_
    refine va_ldcS C.1 C.2.1 hown' hsa d4 ?_
    intro T2 hT2 X2
    have hrest : 2 * (F0 F.2.1.1 (pc + 6) ls (.ref sa :: .ref H.size :: .ref H.size :: st)).monitorRoom + ((Value.ref H.size :: st).map fun v => v.category).sum + (13 * (xSup.length + 1) + 42) ≤ lo := by
      show 2 * 0 + (1 + (st.map fun v => v.category).sum) + (13 * 3 + 42) ≤ lo
      omega
    have hcell' : T2.heap[H.size]? = some (freshCell cC kC) := by rw [hT2]; exact hcell
    have hsz' : (F0 F.2.1.1 (pc + 6) ls (.ref sa :: .ref H.size :: .ref H.size :: st)).locals.size = F.2.1.2.2.2.2.maxLocals := by rw [C.2.2.1]; exact hl.1
    obtain ⟨U, st1, hrun, hend, hWU, hsame, ce, hce, hoc⟩ := X2.ctorThrowS C.1 hnt hown' hfit (by decide +kernel) hatoms (fun x hx => by cases hx) (a := H.size) hfc hkC hcell' (by rw [hhp]; exact Nat.le_refl _) (msg := .ref sa) rfl (g := F0 F.2.1.1 (pc + 6) ls (.ref sa :: .ref H.size :: .ref H.size :: st)) rfl hsz' rfl rfl (rest := st) (by rfl) (by rw [C.2.1]; exact d6) (by rw [C.2.1]; exact d9) (fun x hx => (C.2.2.2.2.2.2.1 x hx).elim) hfr hrest C.2.2.2.2.2.1
    exact ⟨U, st1, hrun, hend, hWU, hsame, ce, hce, hoc.vm, hoc.cls⟩
  obtain ⟨t, a1, hrun, hend, hWt, hsame, ce, hce, hcv, hcl⟩ := key T hT Y
  obtain ⟨z1, z2⟩ := nb_keep hsame
  rw [hhp] at z1 z2
  refine ⟨t, a1, .threw H.size, hrun, hend, ?_, locs ++ [], ⟨State.WarmedH.trans hWs hWt, ?_⟩, fun q hq => hS.2.2 q (by simpa using hq)⟩
  · rw [hρ]
    refine ⟨⟨H.size, ce, rfl, hce, hcv, by rw [← hvm]; exact hcl⟩, hP.kept fun k q hq => z2 q.1 (hP k q hq).lt, ?_, fun q h1 h2 => ?_⟩
    · exact Nat.le_trans hS.1 z1
    · rw [z2 q (Nat.lt_of_lt_of_le h1 hS.1)]
      exact hS.2.1 q h1 h2
  · have h2 : (T.setVm F.1.2.2.2.2.vm).sameButNew ({ t with vm := F.1.2.2.2.2.vm } : State) [] 1 6 := by
      rw [hs'] at hsame
      obtain ⟨e1, e2⟩ := hsame
      refine ⟨?_, e2⟩
      refine e1.trans ?_
      show _ = { (T.setVm F.1.2.2.2.2.vm).setFrames t.frames with heap := t.heap, slotsUsed := t.slotsUsed }
      rw [← State.setFrames_setFrames (T.setVm F.1.2.2.2.2.vm) (.invoking F.2.1.1 F.2.1.2.1 :: F.2.1.2.2.1)]
      rfl
    have h3 := X.same.trans h2
    rw [hρ]
    exact h3
end JX
end
