section
-- ===== PART A: goes FIRST, ahead of the names: the tables' words, and 'selects' of the private methods out of them =====
/-- a private method of a class that the tables say can be made, by its rows of tables_1 -/
def lw_okq (q : MethodName × Nat) : Prop := (q.1.cls ≠ "java/lang/invoke/MethodHandle" ∧ q.1.cls ≠ "java/lang/invoke/VarHandle") ∧ Cond.instantiable q.1.cls q.2 ∈ tables_1 ∧ Cond.privateMethod q.1 ∈ tables_1 ∧ Cond.instanceMethod q.1 ∈ tables_1
theorem lw_p0 : lw_okq (⟨"LineFrames$StreamReader", "markAt", "(I)I"⟩, 14) := ⟨⟨by decide +kernel, by decide +kernel⟩, List.mem_of_getElem? (i := 210) (by decide +kernel), List.mem_of_getElem? (i := 371) (by decide +kernel), List.mem_of_getElem? (i := 372) (by decide +kernel)⟩
theorem lw_p1 : lw_okq (⟨"LineFrames$StreamReader", "isTooSoonOrLate", "(I)Z"⟩, 14) := ⟨⟨by decide +kernel, by decide +kernel⟩, List.mem_of_getElem? (i := 210) (by decide +kernel), List.mem_of_getElem? (i := 393) (by decide +kernel), List.mem_of_getElem? (i := 394) (by decide +kernel)⟩
theorem lw_p2 : lw_okq (⟨"LineFrames$StreamReader", "allScanned", "()Z"⟩, 14) := ⟨⟨by decide +kernel, by decide +kernel⟩, List.mem_of_getElem? (i := 210) (by decide +kernel), List.mem_of_getElem? (i := 397) (by decide +kernel), List.mem_of_getElem? (i := 398) (by decide +kernel)⟩
theorem lw_p3 : lw_okq (⟨"LineFrames$StreamReader", "end", "()V"⟩, 14) := ⟨⟨by decide +kernel, by decide +kernel⟩, List.mem_of_getElem? (i := 210) (by decide +kernel), List.mem_of_getElem? (i := 405) (by decide +kernel), List.mem_of_getElem? (i := 406) (by decide +kernel)⟩
theorem lw_p4 : lw_okq (⟨"LineFrames$StreamReader", "lengthAt", "(I)I"⟩, 14) := ⟨⟨by decide +kernel, by decide +kernel⟩, List.mem_of_getElem? (i := 210) (by decide +kernel), List.mem_of_getElem? (i := 413) (by decide +kernel), List.mem_of_getElem? (i := 414) (by decide +kernel)⟩
theorem lw_p5 : lw_okq (⟨"LineFrames$StreamReader", "take", "(III)I"⟩, 14) := ⟨⟨by decide +kernel, by decide +kernel⟩, List.mem_of_getElem? (i := 210) (by decide +kernel), List.mem_of_getElem? (i := 422) (by decide +kernel), List.mem_of_getElem? (i := 423) (by decide +kernel)⟩
theorem lw_p6 : lw_okq (⟨"LineFrames$StreamReader", "takeFrame", "(II)I"⟩, 14) := ⟨⟨by decide +kernel, by decide +kernel⟩, List.mem_of_getElem? (i := 210) (by decide +kernel), List.mem_of_getElem? (i := 426) (by decide +kernel), List.mem_of_getElem? (i := 427) (by decide +kernel)⟩
theorem lw_p7 : lw_okq (⟨"LineFrames$StreamReader", "takePresetsOrTable", "(II)I"⟩, 14) := ⟨⟨by decide +kernel, by decide +kernel⟩, List.mem_of_getElem? (i := 210) (by decide +kernel), List.mem_of_getElem? (i := 434) (by decide +kernel), List.mem_of_getElem? (i := 435) (by decide +kernel)⟩
theorem lw_p8 : lw_okq (⟨"LineFrames$StreamReader", "takePresets", "(II)I"⟩, 14) := ⟨⟨by decide +kernel, by decide +kernel⟩, List.mem_of_getElem? (i := 210) (by decide +kernel), List.mem_of_getElem? (i := 438) (by decide +kernel), List.mem_of_getElem? (i := 439) (by decide +kernel)⟩
theorem lw_p9 : lw_okq (⟨"LineFrames$StreamReader", "takeTable", "(II)I"⟩, 14) := ⟨⟨by decide +kernel, by decide +kernel⟩, List.mem_of_getElem? (i := 210) (by decide +kernel), List.mem_of_getElem? (i := 446) (by decide +kernel), List.mem_of_getElem? (i := 447) (by decide +kernel)⟩
theorem lw_p10 : lw_okq (⟨"LineFrames$StreamReader", "takeRestarts", "(II)I"⟩, 14) := ⟨⟨by decide +kernel, by decide +kernel⟩, List.mem_of_getElem? (i := 210) (by decide +kernel), List.mem_of_getElem? (i := 471) (by decide +kernel), List.mem_of_getElem? (i := 472) (by decide +kernel)⟩
theorem lw_p11 : lw_okq (⟨"LineFrames$StreamReader", "takeScan", "(II)I"⟩, 14) := ⟨⟨by decide +kernel, by decide +kernel⟩, List.mem_of_getElem? (i := 210) (by decide +kernel), List.mem_of_getElem? (i := 475) (by decide +kernel), List.mem_of_getElem? (i := 476) (by decide +kernel)⟩
theorem lw_p12 : lw_okq (⟨"LineFrames$StreamReader", "faultOfPart", "(IIII)I"⟩, 14) := ⟨⟨by decide +kernel, by decide +kernel⟩, List.mem_of_getElem? (i := 210) (by decide +kernel), List.mem_of_getElem? (i := 479) (by decide +kernel), List.mem_of_getElem? (i := 480) (by decide +kernel)⟩
theorem lw_p13 : lw_okq (⟨"LineFrames$StreamReader", "takeNote", "(III)I"⟩, 14) := ⟨⟨by decide +kernel, by decide +kernel⟩, List.mem_of_getElem? (i := 210) (by decide +kernel), List.mem_of_getElem? (i := 483) (by decide +kernel), List.mem_of_getElem? (i := 484) (by decide +kernel)⟩
theorem lw_p14 : lw_okq (⟨"LineFrames$StreamReader", "data", "()V"⟩, 14) := ⟨⟨by decide +kernel, by decide +kernel⟩, List.mem_of_getElem? (i := 210) (by decide +kernel), List.mem_of_getElem? (i := 501) (by decide +kernel), List.mem_of_getElem? (i := 502) (by decide +kernel)⟩
theorem lw_p15 : lw_okq (⟨"LineFrames$Model", "steps", "(I)I"⟩, 9) := ⟨⟨by decide +kernel, by decide +kernel⟩, List.mem_of_getElem? (i := 143) (by decide +kernel), List.mem_of_getElem? (i := 510) (by decide +kernel), List.mem_of_getElem? (i := 511) (by decide +kernel)⟩
def lw_privs_1 : List (MethodName × Nat) := [(⟨"LineFrames$StreamReader", "markAt", "(I)I"⟩, 14), (⟨"LineFrames$StreamReader", "isTooSoonOrLate", "(I)Z"⟩, 14), (⟨"LineFrames$StreamReader", "allScanned", "()Z"⟩, 14), (⟨"LineFrames$StreamReader", "end", "()V"⟩, 14), (⟨"LineFrames$StreamReader", "lengthAt", "(I)I"⟩, 14), (⟨"LineFrames$StreamReader", "take", "(III)I"⟩, 14), (⟨"LineFrames$StreamReader", "takeFrame", "(II)I"⟩, 14), (⟨"LineFrames$StreamReader", "takePresetsOrTable", "(II)I"⟩, 14), (⟨"LineFrames$StreamReader", "takePresets", "(II)I"⟩, 14), (⟨"LineFrames$StreamReader", "takeTable", "(II)I"⟩, 14), (⟨"LineFrames$StreamReader", "takeRestarts", "(II)I"⟩, 14), (⟨"LineFrames$StreamReader", "takeScan", "(II)I"⟩, 14), (⟨"LineFrames$StreamReader", "faultOfPart", "(IIII)I"⟩, 14), (⟨"LineFrames$StreamReader", "takeNote", "(III)I"⟩, 14), (⟨"LineFrames$StreamReader", "data", "()V"⟩, 14), (⟨"LineFrames$Model", "steps", "(I)I"⟩, 9)]
theorem lw_r1 : ∀ q ∈ lw_privs_1, lw_okq q := List.forall_mem_cons.mpr ⟨lw_p0, List.forall_mem_cons.mpr ⟨lw_p1, List.forall_mem_cons.mpr ⟨lw_p2, List.forall_mem_cons.mpr ⟨lw_p3, List.forall_mem_cons.mpr ⟨lw_p4, List.forall_mem_cons.mpr ⟨lw_p5, List.forall_mem_cons.mpr ⟨lw_p6, List.forall_mem_cons.mpr ⟨lw_p7, List.forall_mem_cons.mpr ⟨lw_p8, List.forall_mem_cons.mpr ⟨lw_p9, List.forall_mem_cons.mpr ⟨lw_p10, List.forall_mem_cons.mpr ⟨lw_p11, List.forall_mem_cons.mpr ⟨lw_p12, List.forall_mem_cons.mpr ⟨lw_p13, List.forall_mem_cons.mpr ⟨lw_p14, List.forall_mem_cons.mpr ⟨lw_p15, fun _ h => absurd h List.not_mem_nil⟩⟩⟩⟩⟩⟩⟩⟩⟩⟩⟩⟩⟩⟩⟩⟩
theorem lw_p16 : lw_okq (⟨"LineFrames$StreamReader", "passRestart", "(I)V"⟩, 14) := ⟨⟨by decide +kernel, by decide +kernel⟩, List.mem_of_getElem? (i := 210) (by decide +kernel), List.mem_of_getElem? (i := 524) (by decide +kernel), List.mem_of_getElem? (i := 525) (by decide +kernel)⟩
theorem lw_p17 : lw_okq (⟨"LineFrames$StreamReader", "takeRow", "(IZ)V"⟩, 14) := ⟨⟨by decide +kernel, by decide +kernel⟩, List.mem_of_getElem? (i := 210) (by decide +kernel), List.mem_of_getElem? (i := 541) (by decide +kernel), List.mem_of_getElem? (i := 542) (by decide +kernel)⟩
theorem lw_p18 : lw_okq (⟨"LineFrames$BitSource", "bits", "(I)I"⟩, 5) := ⟨⟨by decide +kernel, by decide +kernel⟩, List.mem_of_getElem? (i := 235) (by decide +kernel), List.mem_of_getElem? (i := 562) (by decide +kernel), List.mem_of_getElem? (i := 563) (by decide +kernel)⟩
theorem lw_p19 : lw_okq (⟨"LineFrames$BitSource", "fetch", "()V"⟩, 5) := ⟨⟨by decide +kernel, by decide +kernel⟩, List.mem_of_getElem? (i := 235) (by decide +kernel), List.mem_of_getElem? (i := 567) (by decide +kernel), List.mem_of_getElem? (i := 568) (by decide +kernel)⟩
theorem lw_p20 : lw_okq (⟨"LineFrames$Model", "toSample", "(I)I"⟩, 9) := ⟨⟨by decide +kernel, by decide +kernel⟩, List.mem_of_getElem? (i := 143) (by decide +kernel), List.mem_of_getElem? (i := 576) (by decide +kernel), List.mem_of_getElem? (i := 577) (by decide +kernel)⟩
theorem lw_p21 : lw_okq (⟨"LineFrames$Model", "learn", "(II)V"⟩, 9) := ⟨⟨by decide +kernel, by decide +kernel⟩, List.mem_of_getElem? (i := 143) (by decide +kernel), List.mem_of_getElem? (i := 581) (by decide +kernel), List.mem_of_getElem? (i := 582) (by decide +kernel)⟩
theorem lw_p22 : lw_okq (⟨"LineFrames$StreamReader", "endScan", "()V"⟩, 14) := ⟨⟨by decide +kernel, by decide +kernel⟩, List.mem_of_getElem? (i := 210) (by decide +kernel), List.mem_of_getElem? (i := 588) (by decide +kernel), List.mem_of_getElem? (i := 589) (by decide +kernel)⟩
theorem lw_p23 : lw_okq (⟨"java/lang/Throwable", "fillInStackTrace", "(I)Ljava/lang/Throwable;"⟩, 6) := ⟨⟨by decide +kernel, by decide +kernel⟩, List.mem_of_getElem? (i := 668) (by decide +kernel), List.mem_of_getElem? (i := 666) (by decide +kernel), List.mem_of_getElem? (i := 667) (by decide +kernel)⟩
theorem lw_p24 : lw_okq (⟨"LineFrames", "wantPicture", "()V"⟩, 6) := ⟨⟨by decide +kernel, by decide +kernel⟩, List.mem_of_getElem? (i := 22) (by decide +kernel), List.mem_of_getElem? (i := 709) (by decide +kernel), List.mem_of_getElem? (i := 710) (by decide +kernel)⟩
theorem lw_p25 : lw_okq (⟨"LineFrames$StreamWriter", "mark", "(I)V"⟩, 4) := ⟨⟨by decide +kernel, by decide +kernel⟩, List.mem_of_getElem? (i := 137) (by decide +kernel), List.mem_of_getElem? (i := 848) (by decide +kernel), List.mem_of_getElem? (i := 849) (by decide +kernel)⟩
theorem lw_p26 : lw_okq (⟨"LineFrames$StreamWriter", "addNotes", "()V"⟩, 4) := ⟨⟨by decide +kernel, by decide +kernel⟩, List.mem_of_getElem? (i := 137) (by decide +kernel), List.mem_of_getElem? (i := 856) (by decide +kernel), List.mem_of_getElem? (i := 857) (by decide +kernel)⟩
theorem lw_p27 : lw_okq (⟨"LineFrames$StreamWriter", "segment", "(II)V"⟩, 4) := ⟨⟨by decide +kernel, by decide +kernel⟩, List.mem_of_getElem? (i := 137) (by decide +kernel), List.mem_of_getElem? (i := 866) (by decide +kernel), List.mem_of_getElem? (i := 867) (by decide +kernel)⟩
theorem lw_p28 : lw_okq (⟨"LineFrames$StreamWriter", "addFrame", "()V"⟩, 4) := ⟨⟨by decide +kernel, by decide +kernel⟩, List.mem_of_getElem? (i := 137) (by decide +kernel), List.mem_of_getElem? (i := 879) (by decide +kernel), List.mem_of_getElem? (i := 880) (by decide +kernel)⟩
theorem lw_p29 : lw_okq (⟨"LineFrames$StreamWriter", "addPresets", "()V"⟩, 4) := ⟨⟨by decide +kernel, by decide +kernel⟩, List.mem_of_getElem? (i := 137) (by decide +kernel), List.mem_of_getElem? (i := 883) (by decide +kernel), List.mem_of_getElem? (i := 884) (by decide +kernel)⟩
theorem lw_p30 : lw_okq (⟨"LineFrames$StreamWriter", "addTables", "()V"⟩, 4) := ⟨⟨by decide +kernel, by decide +kernel⟩, List.mem_of_getElem? (i := 137) (by decide +kernel), List.mem_of_getElem? (i := 888) (by decide +kernel), List.mem_of_getElem? (i := 889) (by decide +kernel)⟩
theorem lw_p31 : lw_okq (⟨"LineFrames$StreamWriter", "addRestarts", "()V"⟩, 4) := ⟨⟨by decide +kernel, by decide +kernel⟩, List.mem_of_getElem? (i := 137) (by decide +kernel), List.mem_of_getElem? (i := 895) (by decide +kernel), List.mem_of_getElem? (i := 896) (by decide +kernel)⟩
def lw_privs_2 : List (MethodName × Nat) := [(⟨"LineFrames$StreamReader", "passRestart", "(I)V"⟩, 14), (⟨"LineFrames$StreamReader", "takeRow", "(IZ)V"⟩, 14), (⟨"LineFrames$BitSource", "bits", "(I)I"⟩, 5), (⟨"LineFrames$BitSource", "fetch", "()V"⟩, 5), (⟨"LineFrames$Model", "toSample", "(I)I"⟩, 9), (⟨"LineFrames$Model", "learn", "(II)V"⟩, 9), (⟨"LineFrames$StreamReader", "endScan", "()V"⟩, 14), (⟨"java/lang/Throwable", "fillInStackTrace", "(I)Ljava/lang/Throwable;"⟩, 6), (⟨"LineFrames", "wantPicture", "()V"⟩, 6), (⟨"LineFrames$StreamWriter", "mark", "(I)V"⟩, 4), (⟨"LineFrames$StreamWriter", "addNotes", "()V"⟩, 4), (⟨"LineFrames$StreamWriter", "segment", "(II)V"⟩, 4), (⟨"LineFrames$StreamWriter", "addFrame", "()V"⟩, 4), (⟨"LineFrames$StreamWriter", "addPresets", "()V"⟩, 4), (⟨"LineFrames$StreamWriter", "addTables", "()V"⟩, 4), (⟨"LineFrames$StreamWriter", "addRestarts", "()V"⟩, 4)]
theorem lw_r2 : ∀ q ∈ lw_privs_2, lw_okq q := List.forall_mem_cons.mpr ⟨lw_p16, List.forall_mem_cons.mpr ⟨lw_p17, List.forall_mem_cons.mpr ⟨lw_p18, List.forall_mem_cons.mpr ⟨lw_p19, List.forall_mem_cons.mpr ⟨lw_p20, List.forall_mem_cons.mpr ⟨lw_p21, List.forall_mem_cons.mpr ⟨lw_p22, List.forall_mem_cons.mpr ⟨lw_p23, List.forall_mem_cons.mpr ⟨lw_p24, List.forall_mem_cons.mpr ⟨lw_p25, List.forall_mem_cons.mpr ⟨lw_p26, List.forall_mem_cons.mpr ⟨lw_p27, List.forall_mem_cons.mpr ⟨lw_p28, List.forall_mem_cons.mpr ⟨lw_p29, List.forall_mem_cons.mpr ⟨lw_p30, List.forall_mem_cons.mpr ⟨lw_p31, fun _ h => absurd h List.not_mem_nil⟩⟩⟩⟩⟩⟩⟩⟩⟩⟩⟩⟩⟩⟩⟩⟩
theorem lw_p32 : lw_okq (⟨"LineFrames$StreamWriter", "scan", "(IIII)V"⟩, 4) := ⟨⟨by decide +kernel, by decide +kernel⟩, List.mem_of_getElem? (i := 137) (by decide +kernel), List.mem_of_getElem? (i := 899) (by decide +kernel), List.mem_of_getElem? (i := 900) (by decide +kernel)⟩
theorem lw_p33 : lw_okq (⟨"LineFrames$StreamWriter", "addScanHead", "(IIII)V"⟩, 4) := ⟨⟨by decide +kernel, by decide +kernel⟩, List.mem_of_getElem? (i := 137) (by decide +kernel), List.mem_of_getElem? (i := 903) (by decide +kernel), List.mem_of_getElem? (i := 904) (by decide +kernel)⟩
theorem lw_p34 : lw_okq (⟨"LineFrames$StreamWriter", "addRow", "(IIIIZ)V"⟩, 4) := ⟨⟨by decide +kernel, by decide +kernel⟩, List.mem_of_getElem? (i := 137) (by decide +kernel), List.mem_of_getElem? (i := 914) (by decide +kernel), List.mem_of_getElem? (i := 915) (by decide +kernel)⟩
theorem lw_p35 : lw_okq (⟨"LineFrames$StreamWriter", "addSample", "(IIIZ)V"⟩, 4) := ⟨⟨by decide +kernel, by decide +kernel⟩, List.mem_of_getElem? (i := 137) (by decide +kernel), List.mem_of_getElem? (i := 918) (by decide +kernel), List.mem_of_getElem? (i := 919) (by decide +kernel)⟩
theorem lw_p36 : lw_okq (⟨"LineFrames$BitSink", "bits", "(II)V"⟩, 3) := ⟨⟨by decide +kernel, by decide +kernel⟩, List.mem_of_getElem? (i := 181) (by decide +kernel), List.mem_of_getElem? (i := 933) (by decide +kernel), List.mem_of_getElem? (i := 934) (by decide +kernel)⟩
theorem lw_p37 : lw_okq (⟨"LineFrames", "wantReading", "()V"⟩, 6) := ⟨⟨by decide +kernel, by decide +kernel⟩, List.mem_of_getElem? (i := 22) (by decide +kernel), List.mem_of_getElem? (i := 988) (by decide +kernel), List.mem_of_getElem? (i := 989) (by decide +kernel)⟩
theorem lw_p38 : lw_okq (⟨"LineFramesModel", "fails", "(I)I"⟩, 65) := ⟨⟨by decide +kernel, by decide +kernel⟩, List.mem_of_getElem? (i := 1010) (by decide +kernel), List.mem_of_getElem? (i := 1224) (by decide +kernel), List.mem_of_getElem? (i := 1225) (by decide +kernel)⟩
theorem lw_p39 : lw_okq (⟨"LineFramesModel", "isComponent", "(I)Z"⟩, 65) := ⟨⟨by decide +kernel, by decide +kernel⟩, List.mem_of_getElem? (i := 1010) (by decide +kernel), List.mem_of_getElem? (i := 1232) (by decide +kernel), List.mem_of_getElem? (i := 1233) (by decide +kernel)⟩
theorem lw_p40 : lw_okq (⟨"LineFramesModel", "lay", "(I)V"⟩, 65) := ⟨⟨by decide +kernel, by decide +kernel⟩, List.mem_of_getElem? (i := 1010) (by decide +kernel), List.mem_of_getElem? (i := 1260) (by decide +kernel), List.mem_of_getElem? (i := 1261) (by decide +kernel)⟩
theorem lw_p41 : lw_okq (⟨"LineFramesModel", "mark", "(II)V"⟩, 65) := ⟨⟨by decide +kernel, by decide +kernel⟩, List.mem_of_getElem? (i := 1010) (by decide +kernel), List.mem_of_getElem? (i := 1264) (by decide +kernel), List.mem_of_getElem? (i := 1265) (by decide +kernel)⟩
theorem lw_p42 : lw_okq (⟨"LineFramesModel", "layWide", "(I)V"⟩, 65) := ⟨⟨by decide +kernel, by decide +kernel⟩, List.mem_of_getElem? (i := 1010) (by decide +kernel), List.mem_of_getElem? (i := 1268) (by decide +kernel), List.mem_of_getElem? (i := 1269) (by decide +kernel)⟩
theorem lw_p43 : lw_okq (⟨"LineFramesModel", "scan", "(III)V"⟩, 65) := ⟨⟨by decide +kernel, by decide +kernel⟩, List.mem_of_getElem? (i := 1010) (by decide +kernel), List.mem_of_getElem? (i := 1272) (by decide +kernel), List.mem_of_getElem? (i := 1273) (by decide +kernel)⟩
theorem lw_p44 : lw_okq (⟨"LineFramesModel", "data", "(III)V"⟩, 65) := ⟨⟨by decide +kernel, by decide +kernel⟩, List.mem_of_getElem? (i := 1010) (by decide +kernel), List.mem_of_getElem? (i := 1276) (by decide +kernel), List.mem_of_getElem? (i := 1277) (by decide +kernel)⟩
theorem lw_p45 : lw_okq (⟨"LineFramesModel", "begin", "(II)V"⟩, 65) := ⟨⟨by decide +kernel, by decide +kernel⟩, List.mem_of_getElem? (i := 1010) (by decide +kernel), List.mem_of_getElem? (i := 1280) (by decide +kernel), List.mem_of_getElem? (i := 1281) (by decide +kernel)⟩
theorem lw_p46 : lw_okq (⟨"LineFramesModel", "tell", "(III)V"⟩, 65) := ⟨⟨by decide +kernel, by decide +kernel⟩, List.mem_of_getElem? (i := 1010) (by decide +kernel), List.mem_of_getElem? (i := 1284) (by decide +kernel), List.mem_of_getElem? (i := 1285) (by decide +kernel)⟩
theorem lw_p47 : lw_okq (⟨"LineFramesModel", "foretold", "(III)I"⟩, 65) := ⟨⟨by decide +kernel, by decide +kernel⟩, List.mem_of_getElem? (i := 1010) (by decide +kernel), List.mem_of_getElem? (i := 1288) (by decide +kernel), List.mem_of_getElem? (i := 1289) (by decide +kernel)⟩
def lw_privs_3 : List (MethodName × Nat) := [(⟨"LineFrames$StreamWriter", "scan", "(IIII)V"⟩, 4), (⟨"LineFrames$StreamWriter", "addScanHead", "(IIII)V"⟩, 4), (⟨"LineFrames$StreamWriter", "addRow", "(IIIIZ)V"⟩, 4), (⟨"LineFrames$StreamWriter", "addSample", "(IIIZ)V"⟩, 4), (⟨"LineFrames$BitSink", "bits", "(II)V"⟩, 3), (⟨"LineFrames", "wantReading", "()V"⟩, 6), (⟨"LineFramesModel", "fails", "(I)I"⟩, 65), (⟨"LineFramesModel", "isComponent", "(I)Z"⟩, 65), (⟨"LineFramesModel", "lay", "(I)V"⟩, 65), (⟨"LineFramesModel", "mark", "(II)V"⟩, 65), (⟨"LineFramesModel", "layWide", "(I)V"⟩, 65), (⟨"LineFramesModel", "scan", "(III)V"⟩, 65), (⟨"LineFramesModel", "data", "(III)V"⟩, 65), (⟨"LineFramesModel", "begin", "(II)V"⟩, 65), (⟨"LineFramesModel", "tell", "(III)V"⟩, 65), (⟨"LineFramesModel", "foretold", "(III)I"⟩, 65)]
theorem lw_r3 : ∀ q ∈ lw_privs_3, lw_okq q := List.forall_mem_cons.mpr ⟨lw_p32, List.forall_mem_cons.mpr ⟨lw_p33, List.forall_mem_cons.mpr ⟨lw_p34, List.forall_mem_cons.mpr ⟨lw_p35, List.forall_mem_cons.mpr ⟨lw_p36, List.forall_mem_cons.mpr ⟨lw_p37, List.forall_mem_cons.mpr ⟨lw_p38, List.forall_mem_cons.mpr ⟨lw_p39, List.forall_mem_cons.mpr ⟨lw_p40, List.forall_mem_cons.mpr ⟨lw_p41, List.forall_mem_cons.mpr ⟨lw_p42, List.forall_mem_cons.mpr ⟨lw_p43, List.forall_mem_cons.mpr ⟨lw_p44, List.forall_mem_cons.mpr ⟨lw_p45, List.forall_mem_cons.mpr ⟨lw_p46, List.forall_mem_cons.mpr ⟨lw_p47, fun _ h => absurd h List.not_mem_nil⟩⟩⟩⟩⟩⟩⟩⟩⟩⟩⟩⟩⟩⟩⟩⟩
theorem lw_p48 : lw_okq (⟨"LineFramesModel", "step", "()I"⟩, 65) := ⟨⟨by decide +kernel, by decide +kernel⟩, List.mem_of_getElem? (i := 1010) (by decide +kernel), List.mem_of_getElem? (i := 1292) (by decide +kernel), List.mem_of_getElem? (i := 1293) (by decide +kernel)⟩
theorem lw_p49 : lw_okq (⟨"LineFramesModel", "clipped", "(I)I"⟩, 65) := ⟨⟨by decide +kernel, by decide +kernel⟩, List.mem_of_getElem? (i := 1010) (by decide +kernel), List.mem_of_getElem? (i := 1296) (by decide +kernel), List.mem_of_getElem? (i := 1297) (by decide +kernel)⟩
theorem lw_p50 : lw_okq (⟨"LineFramesModel", "range", "()I"⟩, 65) := ⟨⟨by decide +kernel, by decide +kernel⟩, List.mem_of_getElem? (i := 1010) (by decide +kernel), List.mem_of_getElem? (i := 1300) (by decide +kernel), List.mem_of_getElem? (i := 1301) (by decide +kernel)⟩
theorem lw_p51 : lw_okq (⟨"LineFramesModel", "lengthOf", "(I)I"⟩, 65) := ⟨⟨by decide +kernel, by decide +kernel⟩, List.mem_of_getElem? (i := 1010) (by decide +kernel), List.mem_of_getElem? (i := 1304) (by decide +kernel), List.mem_of_getElem? (i := 1305) (by decide +kernel)⟩
theorem lw_p52 : lw_okq (⟨"LineFramesModel", "bit", "(I)V"⟩, 65) := ⟨⟨by decide +kernel, by decide +kernel⟩, List.mem_of_getElem? (i := 1010) (by decide +kernel), List.mem_of_getElem? (i := 1308) (by decide +kernel), List.mem_of_getElem? (i := 1309) (by decide +kernel)⟩
theorem lw_p53 : lw_okq (⟨"LineFramesModel", "lowBits", "(II)V"⟩, 65) := ⟨⟨by decide +kernel, by decide +kernel⟩, List.mem_of_getElem? (i := 1010) (by decide +kernel), List.mem_of_getElem? (i := 1312) (by decide +kernel), List.mem_of_getElem? (i := 1313) (by decide +kernel)⟩
theorem lw_p54 : lw_okq (⟨"LineFramesModel", "count", "(III)V"⟩, 65) := ⟨⟨by decide +kernel, by decide +kernel⟩, List.mem_of_getElem? (i := 1010) (by decide +kernel), List.mem_of_getElem? (i := 1316) (by decide +kernel), List.mem_of_getElem? (i := 1317) (by decide +kernel)⟩
theorem lw_p55 : lw_okq (⟨"LineFramesModel", "fill", "()V"⟩, 65) := ⟨⟨by decide +kernel, by decide +kernel⟩, List.mem_of_getElem? (i := 1010) (by decide +kernel), List.mem_of_getElem? (i := 1320) (by decide +kernel), List.mem_of_getElem? (i := 1321) (by decide +kernel)⟩
theorem lw_p56 : lw_okq (⟨"LineFramesModel", "clear", "()V"⟩, 65) := ⟨⟨by decide +kernel, by decide +kernel⟩, List.mem_of_getElem? (i := 1010) (by decide +kernel), List.mem_of_getElem? (i := 1348) (by decide +kernel), List.mem_of_getElem? (i := 1349) (by decide +kernel)⟩
theorem lw_p57 : lw_okq (⟨"LineFramesModel", "isMark", "()Z"⟩, 65) := ⟨⟨by decide +kernel, by decide +kernel⟩, List.mem_of_getElem? (i := 1010) (by decide +kernel), List.mem_of_getElem? (i := 1352) (by decide +kernel), List.mem_of_getElem? (i := 1353) (by decide +kernel)⟩
theorem lw_p58 : lw_okq (⟨"LineFramesModel", "broken", "(II)Z"⟩, 65) := ⟨⟨by decide +kernel, by decide +kernel⟩, List.mem_of_getElem? (i := 1010) (by decide +kernel), List.mem_of_getElem? (i := 1356) (by decide +kernel), List.mem_of_getElem? (i := 1357) (by decide +kernel)⟩
theorem lw_p59 : lw_okq (⟨"LineFramesModel", "takeSegment", "()V"⟩, 65) := ⟨⟨by decide +kernel, by decide +kernel⟩, List.mem_of_getElem? (i := 1010) (by decide +kernel), List.mem_of_getElem? (i := 1360) (by decide +kernel), List.mem_of_getElem? (i := 1361) (by decide +kernel)⟩
theorem lw_p60 : lw_okq (⟨"LineFramesModel", "isSegment", "()Z"⟩, 65) := ⟨⟨by decide +kernel, by decide +kernel⟩, List.mem_of_getElem? (i := 1010) (by decide +kernel), List.mem_of_getElem? (i := 1364) (by decide +kernel), List.mem_of_getElem? (i := 1365) (by decide +kernel)⟩
theorem lw_p61 : lw_okq (⟨"LineFramesModel", "wide", "(I)I"⟩, 65) := ⟨⟨by decide +kernel, by decide +kernel⟩, List.mem_of_getElem? (i := 1010) (by decide +kernel), List.mem_of_getElem? (i := 1368) (by decide +kernel), List.mem_of_getElem? (i := 1369) (by decide +kernel)⟩
theorem lw_p62 : lw_okq (⟨"LineFramesModel", "isFrame", "()Z"⟩, 65) := ⟨⟨by decide +kernel, by decide +kernel⟩, List.mem_of_getElem? (i := 1010) (by decide +kernel), List.mem_of_getElem? (i := 1372) (by decide +kernel), List.mem_of_getElem? (i := 1373) (by decide +kernel)⟩
theorem lw_p63 : lw_okq (⟨"LineFramesModel", "isPreset", "()Z"⟩, 65) := ⟨⟨by decide +kernel, by decide +kernel⟩, List.mem_of_getElem? (i := 1010) (by decide +kernel), List.mem_of_getElem? (i := 1376) (by decide +kernel), List.mem_of_getElem? (i := 1377) (by decide +kernel)⟩
def lw_privs_4 : List (MethodName × Nat) := [(⟨"LineFramesModel", "step", "()I"⟩, 65), (⟨"LineFramesModel", "clipped", "(I)I"⟩, 65), (⟨"LineFramesModel", "range", "()I"⟩, 65), (⟨"LineFramesModel", "lengthOf", "(I)I"⟩, 65), (⟨"LineFramesModel", "bit", "(I)V"⟩, 65), (⟨"LineFramesModel", "lowBits", "(II)V"⟩, 65), (⟨"LineFramesModel", "count", "(III)V"⟩, 65), (⟨"LineFramesModel", "fill", "()V"⟩, 65), (⟨"LineFramesModel", "clear", "()V"⟩, 65), (⟨"LineFramesModel", "isMark", "()Z"⟩, 65), (⟨"LineFramesModel", "broken", "(II)Z"⟩, 65), (⟨"LineFramesModel", "takeSegment", "()V"⟩, 65), (⟨"LineFramesModel", "isSegment", "()Z"⟩, 65), (⟨"LineFramesModel", "wide", "(I)I"⟩, 65), (⟨"LineFramesModel", "isFrame", "()Z"⟩, 65), (⟨"LineFramesModel", "isPreset", "()Z"⟩, 65)]
theorem lw_r4 : ∀ q ∈ lw_privs_4, lw_okq q := List.forall_mem_cons.mpr ⟨lw_p48, List.forall_mem_cons.mpr ⟨lw_p49, List.forall_mem_cons.mpr ⟨lw_p50, List.forall_mem_cons.mpr ⟨lw_p51, List.forall_mem_cons.mpr ⟨lw_p52, List.forall_mem_cons.mpr ⟨lw_p53, List.forall_mem_cons.mpr ⟨lw_p54, List.forall_mem_cons.mpr ⟨lw_p55, List.forall_mem_cons.mpr ⟨lw_p56, List.forall_mem_cons.mpr ⟨lw_p57, List.forall_mem_cons.mpr ⟨lw_p58, List.forall_mem_cons.mpr ⟨lw_p59, List.forall_mem_cons.mpr ⟨lw_p60, List.forall_mem_cons.mpr ⟨lw_p61, List.forall_mem_cons.mpr ⟨lw_p62, List.forall_mem_cons.mpr ⟨lw_p63, fun _ h => absurd h List.not_mem_nil⟩⟩⟩⟩⟩⟩⟩⟩⟩⟩⟩⟩⟩⟩⟩⟩
theorem lw_p64 : lw_okq (⟨"LineFramesModel", "isRestart", "()Z"⟩, 65) := ⟨⟨by decide +kernel, by decide +kernel⟩, List.mem_of_getElem? (i := 1010) (by decide +kernel), List.mem_of_getElem? (i := 1380) (by decide +kernel), List.mem_of_getElem? (i := 1381) (by decide +kernel)⟩
theorem lw_p65 : lw_okq (⟨"LineFramesModel", "isScan", "()Z"⟩, 65) := ⟨⟨by decide +kernel, by decide +kernel⟩, List.mem_of_getElem? (i := 1010) (by decide +kernel), List.mem_of_getElem? (i := 1384) (by decide +kernel), List.mem_of_getElem? (i := 1385) (by decide +kernel)⟩
theorem lw_p66 : lw_okq (⟨"LineFramesModel", "isNote", "()Z"⟩, 65) := ⟨⟨by decide +kernel, by decide +kernel⟩, List.mem_of_getElem? (i := 1010) (by decide +kernel), List.mem_of_getElem? (i := 1388) (by decide +kernel), List.mem_of_getElem? (i := 1389) (by decide +kernel)⟩
theorem lw_p67 : lw_okq (⟨"LineFramesModel", "takeScan", "()V"⟩, 65) := ⟨⟨by decide +kernel, by decide +kernel⟩, List.mem_of_getElem? (i := 1010) (by decide +kernel), List.mem_of_getElem? (i := 1392) (by decide +kernel), List.mem_of_getElem? (i := 1393) (by decide +kernel)⟩
theorem lw_p68 : lw_okq (⟨"LineFramesModel", "hearData", "(II)V"⟩, 65) := ⟨⟨by decide +kernel, by decide +kernel⟩, List.mem_of_getElem? (i := 1010) (by decide +kernel), List.mem_of_getElem? (i := 1396) (by decide +kernel), List.mem_of_getElem? (i := 1397) (by decide +kernel)⟩
theorem lw_p69 : lw_okq (⟨"LineFramesModel", "hearSample", "(III)V"⟩, 65) := ⟨⟨by decide +kernel, by decide +kernel⟩, List.mem_of_getElem? (i := 1010) (by decide +kernel), List.mem_of_getElem? (i := 1400) (by decide +kernel), List.mem_of_getElem? (i := 1401) (by decide +kernel)⟩
theorem lw_p70 : lw_okq (⟨"LineFramesModel", "hear", "()I"⟩, 65) := ⟨⟨by decide +kernel, by decide +kernel⟩, List.mem_of_getElem? (i := 1010) (by decide +kernel), List.mem_of_getElem? (i := 1404) (by decide +kernel), List.mem_of_getElem? (i := 1405) (by decide +kernel)⟩
theorem lw_p71 : lw_okq (⟨"LineFramesModel", "hearBits", "(I)I"⟩, 65) := ⟨⟨by decide +kernel, by decide +kernel⟩, List.mem_of_getElem? (i := 1010) (by decide +kernel), List.mem_of_getElem? (i := 1408) (by decide +kernel), List.mem_of_getElem? (i := 1409) (by decide +kernel)⟩
theorem lw_p72 : lw_okq (⟨"LineFramesModel", "hearEnd", "()V"⟩, 65) := ⟨⟨by decide +kernel, by decide +kernel⟩, List.mem_of_getElem? (i := 1010) (by decide +kernel), List.mem_of_getElem? (i := 1412) (by decide +kernel), List.mem_of_getElem? (i := 1413) (by decide +kernel)⟩
theorem lw_p73 : lw_okq (⟨"LineFramesModel", "hearRestart", "(II)V"⟩, 65) := ⟨⟨by decide +kernel, by decide +kernel⟩, List.mem_of_getElem? (i := 1010) (by decide +kernel), List.mem_of_getElem? (i := 1416) (by decide +kernel), List.mem_of_getElem? (i := 1417) (by decide +kernel)⟩
theorem lw_p74 : lw_okq (⟨"LineFramesModel", "keep", "()V"⟩, 65) := ⟨⟨by decide +kernel, by decide +kernel⟩, List.mem_of_getElem? (i := 1010) (by decide +kernel), List.mem_of_getElem? (i := 1420) (by decide +kernel), List.mem_of_getElem? (i := 1421) (by decide +kernel)⟩
def lw_privs_5 : List (MethodName × Nat) := [(⟨"LineFramesModel", "isRestart", "()Z"⟩, 65), (⟨"LineFramesModel", "isScan", "()Z"⟩, 65), (⟨"LineFramesModel", "isNote", "()Z"⟩, 65), (⟨"LineFramesModel", "takeScan", "()V"⟩, 65), (⟨"LineFramesModel", "hearData", "(II)V"⟩, 65), (⟨"LineFramesModel", "hearSample", "(III)V"⟩, 65), (⟨"LineFramesModel", "hear", "()I"⟩, 65), (⟨"LineFramesModel", "hearBits", "(I)I"⟩, 65), (⟨"LineFramesModel", "hearEnd", "()V"⟩, 65), (⟨"LineFramesModel", "hearRestart", "(II)V"⟩, 65), (⟨"LineFramesModel", "keep", "()V"⟩, 65)]
theorem lw_r5 : ∀ q ∈ lw_privs_5, lw_okq q := List.forall_mem_cons.mpr ⟨lw_p64, List.forall_mem_cons.mpr ⟨lw_p65, List.forall_mem_cons.mpr ⟨lw_p66, List.forall_mem_cons.mpr ⟨lw_p67, List.forall_mem_cons.mpr ⟨lw_p68, List.forall_mem_cons.mpr ⟨lw_p69, List.forall_mem_cons.mpr ⟨lw_p70, List.forall_mem_cons.mpr ⟨lw_p71, List.forall_mem_cons.mpr ⟨lw_p72, List.forall_mem_cons.mpr ⟨lw_p73, List.forall_mem_cons.mpr ⟨lw_p74, fun _ h => absurd h List.not_mem_nil⟩⟩⟩⟩⟩⟩⟩⟩⟩⟩⟩
def lw_privs : List (MethodName × Nat) := lw_privs_1 ++ (lw_privs_2 ++ (lw_privs_3 ++ (lw_privs_4 ++ (lw_privs_5))))
def lw_tbl : List Cond := k2_sels lw_privs ++ tables_1
theorem lw_privs_ok : ∀ q ∈ lw_privs, lw_okq q := by
  show ∀ q ∈ lw_privs_1 ++ (lw_privs_2 ++ (lw_privs_3 ++ (lw_privs_4 ++ (lw_privs_5)))), lw_okq q
  exact List.forall_mem_append.mpr ⟨lw_r1, List.forall_mem_append.mpr ⟨lw_r2, List.forall_mem_append.mpr ⟨lw_r3, List.forall_mem_append.mpr ⟨lw_r4, lw_r5⟩⟩⟩⟩
end
section
def RC0 : String := "LineFrames"
def TC0 : u_T := fun k => match k with
  | 0 => ("LineFrames", "turn", "I", true)
  | 1 => ("LineFrames", "made", "LLineFrames$Picture;", true)
  | 2 => ("LineFrames", "written", "LLineFrames$Bytes;", true)
  | 3 => ("LineFrames", "came", "LLineFrames$Bytes;", true)
  | 4 => ("LineFrames", "writer", "LLineFrames$StreamWriter;", true)
  | _ => ("LineFrames", "reader", "LLineFrames$StreamReader;", true)
def tyC0 : Nat → FieldType := fun k => match k with
  | 0 => .int
  | 1 => .object "LineFrames$Picture"
  | 2 => .object "LineFrames$Bytes"
  | 3 => .object "LineFrames$Bytes"
  | 4 => .object "LineFrames$StreamWriter"
  | _ => .object "LineFrames$StreamReader"
theorem nmC0 : ∀ a, a < 6 → ∀ b, b < 6 → a ≠ b → (TC0 a).2.1 ≠ (TC0 b).2.1 := by decide +kernel
theorem tyC0_ok : ∀ k, k < 6 → parseFieldDescriptor (TC0 k).2.2.1 = some (tyC0 k) := by decide +kernel
def RC1 : String := "LineFrames$BitSink"
def TC1 : u_T := fun k => match k with
  | 0 => ("LineFrames$BitSink", "out", "LLineFrames$Bytes;", true)
  | 1 => ("LineFrames$BitSink", "current", "I", false)
  | _ => ("LineFrames$BitSink", "free", "I", false)
def tyC1 : Nat → FieldType := fun k => match k with
  | 0 => .object "LineFrames$Bytes"
  | 1 => .int
  | _ => .int
theorem nmC1 : ∀ a, a < 3 → ∀ b, b < 3 → a ≠ b → (TC1 a).2.1 ≠ (TC1 b).2.1 := by decide +kernel
theorem tyC1_ok : ∀ k, k < 3 → parseFieldDescriptor (TC1 k).2.2.1 = some (tyC1 k) := by decide +kernel
def RC2 : String := "LineFrames$BitSource"
def TC2 : u_T := fun k => match k with
  | 0 => ("LineFrames$BitSource", "in", "LLineFrames$Bytes;", true)
  | 1 => ("LineFrames$BitSource", "fault", "LLineFrames$Fault;", true)
  | 2 => ("LineFrames$BitSource", "next", "I", false)
  | 3 => ("LineFrames$BitSource", "current", "I", false)
  | _ => ("LineFrames$BitSource", "left", "I", false)
def tyC2 : Nat → FieldType := fun k => match k with
  | 0 => .object "LineFrames$Bytes"
  | 1 => .object "LineFrames$Fault"
  | 2 => .int
  | 3 => .int
  | _ => .int
theorem nmC2 : ∀ a, a < 5 → ∀ b, b < 5 → a ≠ b → (TC2 a).2.1 ≠ (TC2 b).2.1 := by decide +kernel
theorem tyC2_ok : ∀ k, k < 5 → parseFieldDescriptor (TC2 k).2.2.1 = some (tyC2 k) := by decide +kernel
def RC3 : String := "LineFrames$Bytes"
def TC3 : u_T := fun k => match k with
  | 0 => ("LineFrames$Bytes", "cells", "[I", true)
  | _ => ("LineFrames$Bytes", "size", "I", false)
def tyC3 : Nat → FieldType := fun k => match k with
  | 0 => .array .int
  | _ => .int
theorem nmC3 : ∀ a, a < 2 → ∀ b, b < 2 → a ≠ b → (TC3 a).2.1 ≠ (TC3 b).2.1 := by decide +kernel
theorem tyC3_ok : ∀ k, k < 2 → parseFieldDescriptor (TC3 k).2.2.1 = some (tyC3 k) := by decide +kernel
def RC4 : String := "LineFrames$Fault"
def TC4 : u_T := fun k => match k with
  | 0 => ("LineFrames$Fault", "number", "I", false)
  | _ => ("LineFrames$Fault", "place", "I", false)
def tyC4 : Nat → FieldType := fun k => match k with
  | 0 => .int
  | _ => .int
theorem nmC4 : ∀ a, a < 2 → ∀ b, b < 2 → a ≠ b → (TC4 a).2.1 ≠ (TC4 b).2.1 := by decide +kernel
theorem tyC4_ok : ∀ k, k < 2 → parseFieldDescriptor (TC4 k).2.2.1 = some (tyC4 k) := by decide +kernel
def RC5 : String := "LineFrames$Model"
def TC5 : u_T := fun k => match k with
  | 0 => ("LineFrames$Model", "samples", "LLineFrames$Row;", true)
  | 1 => ("LineFrames$Model", "sums", "LLineFrames$Row;", true)
  | 2 => ("LineFrames$Model", "counts", "LLineFrames$Row;", true)
  | 3 => ("LineFrames$Model", "top", "I", false)
  | 4 => ("LineFrames$Model", "near", "I", false)
  | 5 => ("LineFrames$Model", "step", "I", false)
  | 6 => ("LineFrames$Model", "range", "I", false)
  | 7 => ("LineFrames$Model", "reset", "I", false)
  | _ => ("LineFrames$Model", "start", "I", false)
def tyC5 : Nat → FieldType := fun k => match k with
  | 0 => .object "LineFrames$Row"
  | 1 => .object "LineFrames$Row"
  | 2 => .object "LineFrames$Row"
  | 3 => .int
  | 4 => .int
  | 5 => .int
  | 6 => .int
  | 7 => .int
  | _ => .int
theorem nmC5 : ∀ a, a < 9 → ∀ b, b < 9 → a ≠ b → (TC5 a).2.1 ≠ (TC5 b).2.1 := by decide +kernel
theorem tyC5_ok : ∀ k, k < 9 → parseFieldDescriptor (TC5 k).2.2.1 = some (tyC5 k) := by decide +kernel
def RC6 : String := "LineFrames$Notes"
def TC6 : u_T := fun k => match k with
  | 0 => ("LineFrames$Notes", "kinds", "LLineFrames$Row;", true)
  | 1 => ("LineFrames$Notes", "sizes", "LLineFrames$Row;", true)
  | 2 => ("LineFrames$Notes", "cells", "LLineFrames$Row;", true)
  | _ => ("LineFrames$Notes", "count", "I", false)
def tyC6 : Nat → FieldType := fun k => match k with
  | 0 => .object "LineFrames$Row"
  | 1 => .object "LineFrames$Row"
  | 2 => .object "LineFrames$Row"
  | _ => .int
theorem nmC6 : ∀ a, a < 4 → ∀ b, b < 4 → a ≠ b → (TC6 a).2.1 ≠ (TC6 b).2.1 := by decide +kernel
theorem tyC6_ok : ∀ k, k < 4 → parseFieldDescriptor (TC6 k).2.2.1 = some (tyC6 k) := by decide +kernel
def RC7 : String := "LineFrames$Picture"
def TC7 : u_T := fun k => match k with
  | 0 => ("LineFrames$Picture", "samples", "LLineFrames$Row;", true)
  | 1 => ("LineFrames$Picture", "presets", "LLineFrames$Row;", true)
  | 2 => ("LineFrames$Picture", "tabled", "LLineFrames$Row;", true)
  | 3 => ("LineFrames$Picture", "numbers", "LLineFrames$Row;", true)
  | 4 => ("LineFrames$Picture", "notes", "LLineFrames$Notes;", true)
  | 5 => ("LineFrames$Picture", "width", "I", false)
  | 6 => ("LineFrames$Picture", "height", "I", false)
  | 7 => ("LineFrames$Picture", "bits", "I", false)
  | _ => ("LineFrames$Picture", "components", "I", false)
def tyC7 : Nat → FieldType := fun k => match k with
  | 0 => .object "LineFrames$Row"
  | 1 => .object "LineFrames$Row"
  | 2 => .object "LineFrames$Row"
  | 3 => .object "LineFrames$Row"
  | 4 => .object "LineFrames$Notes"
  | 5 => .int
  | 6 => .int
  | 7 => .int
  | _ => .int
theorem nmC7 : ∀ a, a < 9 → ∀ b, b < 9 → a ≠ b → (TC7 a).2.1 ≠ (TC7 b).2.1 := by decide +kernel
theorem tyC7_ok : ∀ k, k < 9 → parseFieldDescriptor (TC7 k).2.2.1 = some (tyC7 k) := by decide +kernel
def RC8 : String := "LineFrames$Row"
def TC8 : u_T := fun k => match k with
  | _ => ("LineFrames$Row", "cells", "[I", true)
def tyC8 : Nat → FieldType := fun k => match k with
  | _ => .array .int
theorem nmC8 : ∀ a, a < 1 → ∀ b, b < 1 → a ≠ b → (TC8 a).2.1 ≠ (TC8 b).2.1 := by decide +kernel
theorem tyC8_ok : ∀ k, k < 1 → parseFieldDescriptor (TC8 k).2.2.1 = some (tyC8 k) := by decide +kernel
def RC9 : String := "LineFrames$StreamReader"
def TC9 : u_T := fun k => match k with
  | 0 => ("LineFrames$StreamReader", "in", "LLineFrames$Bytes;", true)
  | 1 => ("LineFrames$StreamReader", "got", "LLineFrames$Picture;", true)
  | 2 => ("LineFrames$StreamReader", "fault", "LLineFrames$Fault;", true)
  | 3 => ("LineFrames$StreamReader", "bits", "LLineFrames$BitSource;", true)
  | 4 => ("LineFrames$StreamReader", "model", "LLineFrames$Model;", true)
  | 5 => ("LineFrames$StreamReader", "scanned", "LLineFrames$Row;", true)
  | 6 => ("LineFrames$StreamReader", "next", "I", false)
  | 7 => ("LineFrames$StreamReader", "whole", "Z", false)
  | 8 => ("LineFrames$StreamReader", "first", "I", false)
  | 9 => ("LineFrames$StreamReader", "count", "I", false)
  | 10 => ("LineFrames$StreamReader", "near", "I", false)
  | 11 => ("LineFrames$StreamReader", "turn", "I", false)
  | 12 => ("LineFrames$StreamReader", "restarts", "I", false)
  | _ => ("LineFrames$StreamReader", "scans", "I", false)
def tyC9 : Nat → FieldType := fun k => match k with
  | 0 => .object "LineFrames$Bytes"
  | 1 => .object "LineFrames$Picture"
  | 2 => .object "LineFrames$Fault"
  | 3 => .object "LineFrames$BitSource"
  | 4 => .object "LineFrames$Model"
  | 5 => .object "LineFrames$Row"
  | 6 => .int
  | 7 => .boolean
  | 8 => .int
  | 9 => .int
  | 10 => .int
  | 11 => .int
  | 12 => .int
  | _ => .int
theorem nmC9 : ∀ a, a < 14 → ∀ b, b < 14 → a ≠ b → (TC9 a).2.1 ≠ (TC9 b).2.1 := by decide +kernel
theorem tyC9_ok : ∀ k, k < 14 → parseFieldDescriptor (TC9 k).2.2.1 = some (tyC9 k) := by decide +kernel
def RC10 : String := "LineFrames$StreamWriter"
def TC10 : u_T := fun k => match k with
  | 0 => ("LineFrames$StreamWriter", "picture", "LLineFrames$Picture;", true)
  | 1 => ("LineFrames$StreamWriter", "out", "LLineFrames$Bytes;", true)
  | 2 => ("LineFrames$StreamWriter", "model", "LLineFrames$Model;", true)
  | _ => ("LineFrames$StreamWriter", "bits", "LLineFrames$BitSink;", true)
def tyC10 : Nat → FieldType := fun k => match k with
  | 0 => .object "LineFrames$Picture"
  | 1 => .object "LineFrames$Bytes"
  | 2 => .object "LineFrames$Model"
  | _ => .object "LineFrames$BitSink"
theorem nmC10 : ∀ a, a < 4 → ∀ b, b < 4 → a ≠ b → (TC10 a).2.1 ≠ (TC10 b).2.1 := by decide +kernel
theorem tyC10_ok : ∀ k, k < 4 → parseFieldDescriptor (TC10 k).2.2.1 = some (tyC10 k) := by decide +kernel
def RC11 : String := "LineFramesModel"
def TC11 : u_T := fun k => match k with
  | 0 => ("LineFramesModel", "turn", "I", true)
  | 1 => ("LineFramesModel", "thrown", "I", false)
  | 2 => ("LineFramesModel", "width", "I", false)
  | 3 => ("LineFramesModel", "height", "I", false)
  | 4 => ("LineFramesModel", "bits", "I", false)
  | 5 => ("LineFramesModel", "components", "I", false)
  | 6 => ("LineFramesModel", "samples", "[I", true)
  | 7 => ("LineFramesModel", "hasTable", "[Z", true)
  | 8 => ("LineFramesModel", "tables", "[I", true)
  | 9 => ("LineFramesModel", "reset", "I", false)
  | 10 => ("LineFramesModel", "start", "I", false)
  | 11 => ("LineFramesModel", "restart", "I", false)
  | 12 => ("LineFramesModel", "notes", "I", false)
  | 13 => ("LineFramesModel", "noteKinds", "[I", true)
  | 14 => ("LineFramesModel", "noteSizes", "[I", true)
  | 15 => ("LineFramesModel", "noteBytes", "[I", true)
  | 16 => ("LineFramesModel", "written", "[I", true)
  | 17 => ("LineFramesModel", "writtenSize", "I", false)
  | 18 => ("LineFramesModel", "came", "[I", true)
  | 19 => ("LineFramesModel", "cameSize", "I", false)
  | 20 => ("LineFramesModel", "isRead", "Z", false)
  | 21 => ("LineFramesModel", "got", "[I", true)
  | 22 => ("LineFramesModel", "gotSamples", "[I", true)
  | 23 => ("LineFramesModel", "gotHasTable", "[Z", true)
  | 24 => ("LineFramesModel", "gotTables", "[I", true)
  | 25 => ("LineFramesModel", "gotKinds", "[I", true)
  | 26 => ("LineFramesModel", "gotSizes", "[I", true)
  | 27 => ("LineFramesModel", "gotBytes", "[I", true)
  | 28 => ("LineFramesModel", "fault", "I", false)
  | 29 => ("LineFramesModel", "place", "I", false)
  | 30 => ("LineFramesModel", "met", "I", false)
  | 31 => ("LineFramesModel", "whole", "I", false)
  | 32 => ("LineFramesModel", "p", "I", false)
  | 33 => ("LineFramesModel", "hasFrame", "Z", false)
  | 34 => ("LineFramesModel", "newWidth", "I", false)
  | 35 => ("LineFramesModel", "newHeight", "I", false)
  | 36 => ("LineFramesModel", "newBits", "I", false)
  | 37 => ("LineFramesModel", "newComponents", "I", false)
  | 38 => ("LineFramesModel", "newReset", "I", false)
  | 39 => ("LineFramesModel", "newStart", "I", false)
  | 40 => ("LineFramesModel", "newRestart", "I", false)
  | 41 => ("LineFramesModel", "newNotes", "I", false)
  | 42 => ("LineFramesModel", "newNear", "I", false)
  | 43 => ("LineFramesModel", "newTurn", "I", false)
  | 44 => ("LineFramesModel", "newSamples", "[I", true)
  | 45 => ("LineFramesModel", "newHasTable", "[Z", true)
  | 46 => ("LineFramesModel", "newTables", "[I", true)
  | 47 => ("LineFramesModel", "newKinds", "[I", true)
  | 48 => ("LineFramesModel", "newSizes", "[I", true)
  | 49 => ("LineFramesModel", "newBytes", "[I", true)
  | 50 => ("LineFramesModel", "hadScan", "[Z", true)
  | 51 => ("LineFramesModel", "told", "[I", true)
  | 52 => ("LineFramesModel", "sums", "[I", true)
  | 53 => ("LineFramesModel", "numbers", "[I", true)
  | 54 => ("LineFramesModel", "near", "I", false)
  | 55 => ("LineFramesModel", "top", "I", false)
  | 56 => ("LineFramesModel", "firstRow", "I", false)
  | 57 => ("LineFramesModel", "now", "I", false)
  | 58 => ("LineFramesModel", "used", "I", false)
  | 59 => ("LineFramesModel", "most", "I", false)
  | 60 => ("LineFramesModel", "next", "I", false)
  | 61 => ("LineFramesModel", "current", "I", false)
  | 62 => ("LineFramesModel", "left", "I", false)
  | 63 => ("LineFramesModel", "standsAt", "I", false)
  | _ => ("LineFramesModel", "isBehind", "Z", false)
def tyC11 : Nat → FieldType := fun k => match k with
  | 0 => .int
  | 1 => .int
  | 2 => .int
  | 3 => .int
  | 4 => .int
  | 5 => .int
  | 6 => .array .int
  | 7 => .array .boolean
  | 8 => .array .int
  | 9 => .int
  | 10 => .int
  | 11 => .int
  | 12 => .int
  | 13 => .array .int
  | 14 => .array .int
  | 15 => .array .int
  | 16 => .array .int
  | 17 => .int
  | 18 => .array .int
  | 19 => .int
  | 20 => .boolean
  | 21 => .array .int
  | 22 => .array .int
  | 23 => .array .boolean
  | 24 => .array .int
  | 25 => .array .int
  | 26 => .array .int
  | 27 => .array .int
  | 28 => .int
  | 29 => .int
  | 30 => .int
  | 31 => .int
  | 32 => .int
  | 33 => .boolean
  | 34 => .int
  | 35 => .int
  | 36 => .int
  | 37 => .int
  | 38 => .int
  | 39 => .int
  | 40 => .int
  | 41 => .int
  | 42 => .int
  | 43 => .int
  | 44 => .array .int
  | 45 => .array .boolean
  | 46 => .array .int
  | 47 => .array .int
  | 48 => .array .int
  | 49 => .array .int
  | 50 => .array .boolean
  | 51 => .array .int
  | 52 => .array .int
  | 53 => .array .int
  | 54 => .int
  | 55 => .int
  | 56 => .int
  | 57 => .int
  | 58 => .int
  | 59 => .int
  | 60 => .int
  | 61 => .int
  | 62 => .int
  | 63 => .int
  | _ => .boolean
theorem nmC11 : ∀ a, a < 65 → ∀ b, b < 65 → a ≠ b → (TC11 a).2.1 ≠ (TC11 b).2.1 := by decide +kernel
theorem tyC11_ok : ∀ k, k < 65 → parseFieldDescriptor (TC11 k).2.2.1 = some (tyC11 k) := by decide +kernel
abbrev vcl : List vw_C := [(RC0, TC0, 6), (RC1, TC1, 3), (RC2, TC2, 5), (RC3, TC3, 2), (RC4, TC4, 2), (RC5, TC5, 9), (RC6, TC6, 4), (RC7, TC7, 9), (RC8, TC8, 1), (RC9, TC9, 14), (RC10, TC10, 4), (RC11, TC11, 65)]
/-! the layout of the world: kinds (a class number, 100 int[], 101 boolean[], 102 long[]), lengths, targets -/
abbrev wN : Nat := 83
def wkdL : List Nat := [0, 7, 8, 100, 8, 100, 8, 100, 8, 100, 6, 8, 100, 8, 100, 8, 100, 3, 100, 3, 100, 10, 5, 8, 100, 8, 100, 8, 100, 1, 9, 7, 8, 100, 8, 100, 8, 100, 8, 100, 6, 8, 100, 8, 100, 8, 100, 4, 2, 5, 8, 100, 8, 100, 8, 100, 11, 100, 101, 100, 100, 100, 100, 100, 100, 100, 100, 101, 100, 100, 100, 100, 100, 101, 100, 100, 100, 100, 101, 100, 100, 100, 102]
def wlnL : List Nat := [0, 0, 0, 576, 0, 3, 0, 4, 0, 1024, 0, 0, 6, 0, 6, 0, 180, 0, 6000, 0, 6000, 0, 0, 0, 576, 0, 4, 0, 4, 0, 0, 0, 0, 576, 0, 3, 0, 4, 0, 1024, 0, 0, 6, 0, 6, 0, 180, 0, 0, 0, 0, 4, 0, 4, 0, 4, 0, 576, 4, 1024, 6, 6, 180, 9000, 6000, 10, 576, 4, 1024, 6, 6, 180, 576, 4, 1024, 6, 6, 180, 4, 576, 4, 4, 1]
def wtgL : List (List Nat) := [[0, 1, 17, 19, 21, 30], [2, 4, 6, 8, 10, 0, 0, 0, 0], [3], [], [5], [], [7], [], [9], [], [11, 13, 15, 0], [12], [], [14], [], [16], [], [18, 0], [], [20, 0], [], [1, 17, 22, 29], [23, 25, 27, 0, 0, 0, 0, 0, 0], [24], [], [26], [], [28], [], [17, 0, 0], [19, 31, 47, 48, 49, 54, 0, 0, 0, 0, 0, 0, 0, 0], [32, 34, 36, 38, 40, 0, 0, 0, 0], [33], [], [35], [], [37], [], [39], [], [41, 43, 45, 0], [42], [], [44], [], [46], [], [0, 0], [19, 47, 0, 0, 0], [32, 50, 52, 0, 0, 0, 0, 0, 0], [51], [], [53], [], [55], [], [0, 0, 0, 0, 0, 0, 57, 58, 59, 0, 0, 0, 0, 60, 61, 62, 63, 0, 64, 0, 0, 65, 66, 67, 68, 69, 70, 71, 0, 0, 0, 0, 0, 0, 0, 0, 0, 0, 0, 0, 0, 0, 0, 0, 72, 73, 74, 75, 76, 77, 78, 79, 80, 81, 0, 0, 0, 0, 0, 0, 0, 0, 0, 0, 0], [], [], [], [], [], [], [], [], [], [], [], [], [], [], [], [], [], [], [], [], [], [], [], [], [], []]
def wnfL : List Nat := [6, 3, 5, 2, 2, 9, 4, 9, 1, 14, 4, 65]
def wrfL : List (List Bool) := [[false, true, true, true, true, true], [true, false, false], [true, true, false, false, false], [true, false], [false, false], [true, true, true, false, false, false, false, false, false], [true, true, true, false], [true, true, true, true, true, false, false, false, false], [true], [true, true, true, true, true, true, false, false, false, false, false, false, false, false], [true, true, true, true], [false, false, false, false, false, false, true, true, true, false, false, false, false, true, true, true, true, false, true, false, false, true, true, true, true, true, true, true, false, false, false, false, false, false, false, false, false, false, false, false, false, false, false, false, true, true, true, true, true, true, true, true, true, true, false, false, false, false, false, false, false, false, false, false, false]]
def wkd (k : Nat) : Nat := wkdL.getD k 0
def wln (k : Nat) : Nat := wlnL.getD k 0
def wtg (k j : Nat) : Nat := (wtgL.getD k []).getD j 0
def wnf (c : Nat) : Nat := wnfL.getD c 0
def wrf (c j : Nat) : Bool := (wrfL.getD c []).getD j false
def strL : List (String × Nat × String) := [("LineFrames", 63, "no such picture"), ("LineFrames", 273, "there is no picture"), ("LineFrames", 84, "no such sample"), ("LineFrames", 91, "no value of a sample"), ("LineFrames", 115, "no such preset"), ("LineFrames", 123, "no such component"), ("LineFrames", 126, "no sample, or no number that it may stand for"), ("LineFrames", 142, "no kind of a note"), ("LineFrames", 156, "no room for a note"), ("LineFrames", 165, "no such note"), ("LineFrames", 278, "no byte"), ("LineFrames", 173, "no room in the note"), ("LineFrames", 178, "no such NEAR"), ("LineFrames", 188, "no such byte was written"), ("LineFrames", 194, "no room for a byte"), ("LineFrames", 199, "fewer than no bytes"), ("LineFrames", 201, "no room for so many bytes"), ("LineFrames", 203, "no such byte came"), ("LineFrames", 276, "nothing was read"), ("LineFrames", 253, "no such note, or no such byte of it")]
end
section
/-! THE WORLD: 83 cells that stay where they are; their numbers are a memory Mem -/
abbrev Mem : Type := Nat → Nat → Int32
abbrev Rs : Type := (Option Value ⊕ Nat) × Mem
abbrev GC : Type := ClassId × ClassId × ClassId
def mput (σ : Mem) (k j : Nat) (v : Int32) : Mem := fun a => if a = k then upd (σ k) j v else σ a
theorem mput_self {σ : Mem} {k j : Nat} {v : Int32} : mput σ k j v k = upd (σ k) j v := if_pos rfl
theorem mput_ne {σ : Mem} {k j a : Nat} {v : Int32} (h : a ≠ k) : mput σ k j v a = σ a := if_neg h
/-- a named step: what follows speaks of it by its name -/
def lt {α β : Type} (e : α) (K : α → β) : β := K e
def wfl (ad : Nat → Nat) (σ : Mem) (k : Nat) : List Value := (List.range (wnf (wkd k))).map fun j => if wrf (wkd k) j = true then Value.ref (ad (wtg k j)) else .int (σ k j)
def wce (G : GC) (ad : Nat → Nat) (σ : Mem) (k : Nat) : va_E :=
  if wkd k = 100 then .inl (G.1, wln k, .inl (σ k)) else if wkd k = 101 then .inl (G.2.1, wln k, .inl (σ k)) else if wkd k = 102 then .inl (G.2.2, wln k, .inr (.inl fun j => (σ k j).toInt64)) else .inr (wkd k, wfl ad σ k)
def wld (G : GC) (ad : Nat → Nat) (σ : Mem) : va_W := (List.range wN).map fun k => (ad k, wce G ad σ k)
section WL
variable {G : GC} {ad : Nat → Nat} {σ : Mem} {k j c i : Nat} {v : Int32}
theorem wld_len : (wld G ad σ).length = wN := by simp [wld]
theorem wld_at (h : k < wN) : (wld G ad σ)[k]? = some (ad k, wce G ad σ k) := by simp [wld, h]
theorem wld_of {q : Nat × va_E} (h : (wld G ad σ)[k]? = some q) : k < wN ∧ q = (ad k, wce G ad σ k) := by
  have hl : k < wN := by
    have := (List.getElem?_eq_some_iff.mp h).1
    rwa [wld_len] at this
  rw [wld_at hl] at h
  exact ⟨hl, (Option.some.inj h).symm⟩
theorem wfl_len (hc : wkd k = c) : (wfl ad σ k).length = wnf c := by simp [wfl, hc]
theorem wfl_at (hc : wkd k = c) (hj : j < wnf c) : (wfl ad σ k)[j]? = some (if wrf c j = true then Value.ref (ad (wtg k j)) else .int (σ k j)) := by
  simp [wfl, hc, hj]
theorem wld_obj (h : k < wN) (hc : wkd k = c) (hl : c < 100) : (wld G ad σ)[k]? = some (ad k, .inr (c, wfl ad σ k)) := by
  rw [wld_at h, wce, hc, if_neg (by omega), if_neg (by omega), if_neg (by omega)]
theorem wld_int (h : k < wN) (hc : wkd k = 100) : (wld G ad σ)[k]? = some (ad k, .inl (G.1, wln k, .inl (σ k))) := by
  rw [wld_at h, wce, if_pos hc]
theorem wld_bool (h : k < wN) (hc : wkd k = 101) : (wld G ad σ)[k]? = some (ad k, .inl (G.2.1, wln k, .inl (σ k))) := by
  rw [wld_at h, wce, hc, if_neg (by decide), if_pos rfl]
theorem wld_long (h : k < wN) (hc : wkd k = 102) : (wld G ad σ)[k]? = some (ad k, .inl (G.2.2, wln k, .inr (.inl fun j => (σ k j).toInt64))) := by
  rw [wld_at h, wce, hc, if_neg (by decide), if_neg (by decide), if_pos rfl]
theorem wce_ne (h : i ≠ k) : wce G ad (mput σ k j v) i = wce G ad σ i := by
  simp only [wce, wfl, mput_ne h]
theorem wld_set {e : va_E} (h : k < wN) (he : e = wce G ad (mput σ k j v) k) : (wld G ad σ).set k (ad k, e) = wld G ad (mput σ k j v) := by
  apply List.ext_getElem?
  intro i
  by_cases hi : i = k
  · subst hi
    rw [List.getElem?_set_self (by rw [wld_len]; exact h), wld_at h, he]
  · rw [List.getElem?_set_ne (Ne.symm hi)]
    by_cases hl : i < wN
    · rw [wld_at hl, wld_at hl, wce_ne hi]
    · rw [List.getElem?_eq_none (by rw [wld_len]; omega), List.getElem?_eq_none (by rw [wld_len]; omega)]
theorem wfl_put (hc : wkd k = c) (hj : j < wnf c) (hr : wrf c j = false) : (wfl ad σ k).set j (.int v) = wfl ad (mput σ k j v) k := by
  apply List.ext_getElem?
  intro i
  by_cases hi : i = j
  · subst hi
    rw [List.getElem?_set_self (by rw [wfl_len hc]; exact hj), wfl_at hc hj, hr]
    simp [mput_self, upd]
  · rw [List.getElem?_set_ne (Ne.symm hi)]
    by_cases hl : i < wnf c
    · rw [wfl_at hc hl, wfl_at hc hl]
      simp [mput_self, upd, hi]
    · rw [List.getElem?_eq_none (by rw [wfl_len hc]; omega), List.getElem?_eq_none (by rw [wfl_len hc]; omega)]
theorem wld_put (h : k < wN) (hc : wkd k = c) (hl : c < 100) (hj : j < wnf c) (hr : wrf c j = false) : (wld G ad σ).set k (ad k, .inr (c, (wfl ad σ k).set j (.int v))) = wld G ad (mput σ k j v) := by
  refine wld_set h ?_
  rw [wfl_put hc hj hr, wce, hc, if_neg (by omega), if_neg (by omega), if_neg (by omega)]
theorem wld_iput (h : k < wN) (hc : wkd k = 100) : (wld G ad σ).set k (ad k, .inl (G.1, wln k, .inl (upd (σ k) j v))) = wld G ad (mput σ k j v) := by
  refine wld_set h ?_
  rw [wce, if_pos hc, mput_self]
theorem wld_zput (h : k < wN) (hc : wkd k = 101) : (wld G ad σ).set k (ad k, .inl (G.2.1, wln k, .inl (upd (σ k) j v))) = wld G ad (mput σ k j v) := by
  refine wld_set h ?_
  rw [wce, hc, if_neg (by decide), if_pos rfl, mput_self]
theorem wld_lput (h : k < wN) (hc : wkd k = 102) : (wld G ad σ).set k (ad k, .inl (G.2.2, wln k, .inr (.inl (vp_updL (fun j => (σ k j).toInt64) j v.toInt64)))) = wld G ad (mput σ k j v) := by
  refine wld_set h ?_
  rw [wce, hc, if_neg (by decide), if_neg (by decide), if_pos rfl, mput_self]
  congr 5
  funext i
  by_cases hi : i = j
  · simp [vp_updL, upd, hi]
  · simp [vp_updL, upd, hi]
end WL
/-! the words that stay true -/
def stb : Cond → Bool
  | .fieldLinkNest .. => true
  | .methodLinkNest .. => true
  | w => w.onTables && w.keeps
def Wds (U : State) : Prop := ∀ w ∈ lw_tbl, stb w = true → ∀ a : Array Value, w.before a U = true
theorem stb_tab {w : Cond} (h : stb w = true) : w.onTables = true := by
  cases w <;> first | rfl | (simp only [stb, Bool.and_eq_true] at h; exact h.1)
theorem Wds.of {A : Array Value} {s : State} (h : ∀ w ∈ lw_tbl, w.before A s = true) : Wds s := fun w hw hg a => va_tabs (stb_tab hg) rfl (h w hw)
theorem stb_warm {w : Cond} {s U : State} {a : Array Value} (hg : stb w = true) (hW : s.WarmedH U.vm) (h : ∀ a : Array Value, w.before a s = true) : w.before a U = true := by
  have key : ∀ w : Cond, (w.onTables && w.keeps) = true → (∀ a : Array Value, w.before a s = true) → w.before a U = true := fun w g h => word_at hW (Or.inl g) (h #[])
  cases w <;> first
    | exact va_tabs (A := #[]) rfl (rfl : (s.setVm U.vm).vm = U.vm) (Cond.fieldLinkNest_warmed (args := #[]) hW (h #[]))
    | exact va_tabs (A := #[]) rfl (rfl : (s.setVm U.vm).vm = U.vm) (Cond.methodLinkNest_warmed (args := #[]) hW (h #[]))
    | exact key _ hg h
theorem Wds.warm {s U : State} (hW : s.WarmedH U.vm) (h : Wds s) : Wds U := fun w hw hg a => stb_warm hg hW (h w hw hg)
theorem Wds.same {s U : State} (hv : s.vm = U.vm) (h : Wds s) : Wds U := fun w hw hg a => va_tabs (stb_tab hg) hv (h w hw hg a)
/-- a static of the library's that is null or a reference: it hangs on the tables and on one cell that the world has not -/
def SF (n d : String) (A : Nat → Prop) (U : State) (H : Heap) : Prop :=
  ∃ (a : Nat) (cell : Cell), H[a]? = some cell ∧ cell.vm.isStatics = true ∧ ¬ A a ∧ ∀ (U' : State) (g : Array Value), U.vm.Alike U'.vm → U'.heap[a]? = some cell → (Cond.isRef (.static "java/lang/Throwable" n d)).before g U' = true ∧ (Cond.laysStatic "java/lang/Throwable" n d).before g U' = true
theorem SF.moved {n d : String} {A : Nat → Prop} {u U : State} {H : Heap} (hv : u.vm.Alike U.vm) (h : SF n d A u H) : SF n d A U H := by
  obtain ⟨a, cell, h1, h2, h3, h4⟩ := h
  exact ⟨a, cell, h1, h2, h3, fun U' g hv' hc => h4 U' g (hv.trans hv') hc⟩
theorem SF.kept {n d : String} {A : Nat → Prop} {U : State} {H H1 : Heap} (h : SF n d A U H) (hq : ∀ a : Nat, a < H.size → ¬ A a → H1[a]? = H[a]?) : SF n d A U H1 := by
  obtain ⟨a, cell, h1, h2, h3, h4⟩ := h
  exact ⟨a, cell, by rw [hq a (Array.getElem?_eq_some_iff.mp h1).1 h3]; exact h1, h2, h3, h4⟩
theorem SF.narrow {n d : String} {A B : Nat → Prop} {U : State} {H : Heap} (h : SF n d A U H) (hAB : ∀ q, q < H.size → B q → A q) : SF n d B U H := by
  obtain ⟨a, cell, h1, h2, h3, h4⟩ := h
  exact ⟨a, cell, h1, h2, fun z => h3 (hAB a (Array.getElem?_eq_some_iff.mp h1).1 z), h4⟩
theorem SF.of {n d : String} {A : Nat → Prop} {s : State} {g0 : Array Value} (h1 : (Cond.isRef (.static "java/lang/Throwable" n d)).before g0 s = true) (h2 : (Cond.laysStatic "java/lang/Throwable" n d).before g0 s = true) (hA : ∀ a : Nat, a < s.heap.size → ¬ A a) : SF n d A s s.heap := by
  obtain ⟨c, k, i, f, a, cell, hc, hi, hst, ha, hcell, hs, hcls, hlt, hty⟩ := Cond.laysStatic_spec h2
  have hx : ∃ v, cell.slots[f.slot]? = some v ∧ v.isRef = true := by
    obtain ⟨u, hu⟩ := Cond.staticRefV hi hst ha hcell hs h1
    exact ⟨u.v, hu, u.2⟩
  obtain ⟨v, hv, hvr⟩ := hx
  refine ⟨a, cell, hcell, hs, hA a (Array.getElem?_eq_some_iff.mp hcell).1, fun U' g hvm hcell' => ?_⟩
  obtain ⟨k', hi', he⟩ := State.fieldFound?_setVm hvm hi
  have hi2 : U'.fieldFound? "java/lang/Throwable" n d = some (c, k', i, f) := hi'
  have hsta : k'.statics = some a := by rw [he]; exact ha
  refine ⟨?_, ?_⟩
  · have hev : (Term.static "java/lang/Throwable" n d).eval g U' none [] U' = some v := by
      simp [Term.eval, State.fieldNamed?, hi2, hst, hsta, hcell', hs, hv]
    simp only [Cond.before, Cond.holds, Cond.value, hev]
    cases v with
    | null => rfl
    | ref r => rfl
    | _ => exact absurd hvr Bool.false_ne_true
  · exact Cond.laysStatic_of (by rw [hvm.findClass]; exact hc) hi2 hst hsta hcell' hs hcls hlt (by rw [he]; exact hty)
end
section
/-! THE LAYER: contracts over the world, and walks over it -/
def wA (ad : Nat → Nat) (sz : Nat) : Nat → Prop := fun q => (∃ k, k < wN ∧ q = ad k) ∨ sz ≤ q
/-- the classes of what is thrown -/
def xNm (n : Nat) : String := if n = 1 then "java/lang/IllegalStateException" else if n = 2 then "java/lang/IndexOutOfBoundsException" else if n = 3 then "java/lang/IllegalArgumentException" else "java/lang/UnsupportedOperationException"
def rc (ρ : Rs) : Nat := match ρ.1 with
  | .inl _ => 0
  | .inr _ => 1
def rsl (ρ : Rs) : Nat := match ρ.1 with
  | .inl _ => 0
  | .inr _ => 6
abbrev wtys (G : GC) : List (ClassId × FieldType) := [(G.1, .int), (G.2.1, .boolean), (G.2.2, .long)]
def Env0 (D : va_G) (G : GC) (ad : Nat → Nat) (U : State) (H : Heap) : Prop :=
  va_K D vcl (wtys G) U ∧ Wds U ∧ SF "UNASSIGNED_STACK" "[Ljava/lang/StackTraceElement;" (wA ad H.size) U H ∧ SF "SUPPRESSED_SENTINEL" "Ljava/util/List;" (wA ad H.size) U H ∧ (∀ q ∈ strL, ∃ a, vk_R q.1 q.2.1 q.2.2 a U) ∧ (∀ i j, i < wN → j < wN → ad i = ad j → i = j)
theorem wA_mono {ad : Nat → Nat} {a b : Nat} (h : a ≤ b) : ∀ q, wA ad b q → wA ad a q := fun _ hq => hq.elim Or.inl fun z => Or.inr (Nat.le_trans h z)
theorem wld_D {G : GC} {ad : Nat → Nat} {σ : Mem} {sz : Nat} (h : ∀ i j, i < wN → j < wN → ad i = ad j → i = j) : va_D (wA ad sz) (wld G ad σ) := by
  refine ⟨fun i j p q hi hj hpq => ?_, fun k q hk => ?_⟩
  · obtain ⟨h1, e1⟩ := wld_of hi
    obtain ⟨h2, e2⟩ := wld_of hj
    subst e1; subst e2
    exact h i j h1 h2 hpq
  · obtain ⟨h1, e1⟩ := wld_of hk
    subst e1
    exact Or.inl ⟨k, h1, rfl⟩
theorem Env0.step {D : va_G} {G : GC} {ad : Nat → Nat} {s U : State} {H0 H : Heap} {locs : List Loc} (h : Env0 D G ad s H0) (hW : s.WarmedH U.vm) (hS : va_S (wA ad H0.size) H0 H locs) : Env0 D G ad U H := by
  obtain ⟨h1, h2, h3, h4, h5, h6⟩ := h
  refine ⟨va_K.moved hW.alike h1, h2.warm hW, ?_, ?_, fun q hq => ?_, h6⟩
  · exact ((h3.moved hW.alike).kept hS.2.1).narrow (fun q _ hq => wA_mono hS.1 q hq)
  · exact ((h4.moved hW.alike).kept hS.2.1).narrow (fun q _ hq => wA_mono hS.1 q hq)
  · obtain ⟨a, ha⟩ := h5 q hq
    exact ⟨a, ha.warm hW⟩
theorem Env0.same {D : va_G} {G : GC} {ad : Nat → Nat} {s U : State} {H : Heap} (h : Env0 D G ad s H) (hv : s.vm = U.vm) : Env0 D G ad U H := by
  obtain ⟨h1, h2, h3, h4, h5, h6⟩ := h
  have ha : s.vm.Alike U.vm := by rw [hv]; exact Vm.Alike.refl _
  refine ⟨va_K.moved ha h1, h2.same hv, h3.moved ha, h4.moved ha, fun q hq => ?_, h6⟩
  obtain ⟨a, h⟩ := h5 q hq
  exact ⟨a, vk_R.same hv.symm h⟩
/-- how a method ended, and what the world is then -/
def Out (D : va_G) (G : GC) (ad : Nat → Nat) (ρ : Rs) (st : State) (o : Outcome) (t : State) : Prop :=
  (match ρ.1 with
    | .inl v => o = .returned v
    | .inr n => ∃ (q : Addr) (ce : Cell), o = .threw q ∧ t.heap[q]? = some ce ∧ ce.vm = .none ∧ st.vm.findClass (xNm n) = some ce.cls) ∧
  va_P D vcl (wld G ad ρ.2) t.heap ∧ va_F (wA ad st.heap.size) st t
def FE (st t : State) (L : List Loc) (k n : Nat) : Prop := st.WarmedH t.vm ∧ st.sameButNew ({ t with vm := st.vm } : State) L k n
def rmOf (fr lo : Nat) (ρ : Rs) : Room := { frames := fr, cells := rc ρ, slots := rsl ρ, locals := lo }
/-- A METHOD'S CONTRACT: called with av in a world σ it ends as ρ says -/
def Ctr (l : Launch) (D : va_G) (G : GC) (ad : Nat → Nat) (y : MethodName) (bytes : ByteArray) (mL : Nat) (ret : Option FieldType) (fr lo : Nat) (av : List Value) (σ : Mem) (ρ : Rs) : Prop :=
  ∀ sz : Nat, MetFree l y (headSpec [.code y bytes mL ret] (rmOf fr lo ρ)) (fun a U => a = av.toArray ∧ U.heap.size = sz ∧ va_P D vcl (wld G ad σ) U.heap ∧ Env0 D G ad U U.heap) (fun _ _ _ _ _ => True)
    (fun _ st o t => Out D G ad ρ st o t ∧ ∃ L, FE st t L (rc ρ) (rsl ρ) ∧ ∀ q ∈ L, wA ad sz q.base)
def QF (below : List Frame) (D : va_G) (G : GC) (ad : Nat → Nat) (ρ : Rs) (s : State) : State → Prop := fun t =>
  ∃ o, t.status = .running ∧ Ended t below o ∧ Out D G ad ρ s o t ∧ ∃ L, FE s t L (rc ρ) (rsl ρ) ∧ ∀ q ∈ L, wA ad s.heap.size q.base
/-- what stays the same in one walk: p l e R s m args below meth c, D G ad, ρ -/
abbrev Fx : Type := (Program × Launch × Env × Room × State) × (MethodId × Array Value × List Frame × Method × Code) × (va_G × GC × (Nat → Nat) × Rs)
def V (F : Fx) (nL : Nat) (σ : Mem) (pc : Nat) (lv : List (Nat × Value)) (st : List Value) : Prop :=
  ∀ (H : Heap) (locs : List Loc) (ls : Array Slot), va_P F.2.2.1 vcl (wld F.2.2.2.1 F.2.2.2.2.1 σ) H → va_S (wA F.2.2.2.2.1 F.1.2.2.2.2.heap.size) F.1.2.2.2.2.heap H locs → lv_has ls nL lv →
    W F.1.1 F.1.2.1 F.1.2.2.1 F.1.2.2.2.1 F.1.2.2.2.2 F.2.1.1 F.2.1.2.1 F.2.1.2.2.1 F.2.1.2.2.2.1 F.2.1.2.2.2.2 H locs 0 0 (QF F.2.1.2.2.1 F.2.2.1 F.2.2.2.1 F.2.2.2.2.1 F.2.2.2.2.2 F.1.2.2.2.2) (F0 F.2.1.1 pc ls st)
/-- from here the walk ends as E says -/
def J {β : Type} (F : Fx) (nL : Nat) (cv : β → Option Rs) (E : β) (σ : Mem) (pc : Nat) (lv : List (Nat × Value)) (st : List Value) : Prop := cv E = some F.2.2.2.2.2 → V F nL σ pc lv st
abbrev fad (F : Fx) : Nat → Nat := F.2.2.2.2.1
/-- what a walk knows -/
def Ctx (F : Fx) (cc : ByteArray) (nL : Nat) (own : String) (ret : Option FieldType) (fr lo : Nat) : Prop :=
  F.1.1.tables.exec = Jvm.exec ∧ F.2.1.2.2.2.2.code = cc ∧ F.2.1.2.2.2.2.maxLocals = nL ∧ F.1.2.2.2.2.vm.findClass own = some F.2.1.1.cls ∧ F.2.1.2.2.2.1.sig.returnType = ret ∧ F.2.1.2.2.2.1.locks = false ∧
  (∀ x ∈ F.2.1.2.2.2.2.exceptionTable.toList, False) ∧ F.1.2.2.2.1 = rmOf fr lo F.2.2.2.2.2 ∧ Env0 F.2.2.1 F.2.2.2.1 F.2.2.2.2.1 F.1.2.2.2.2 F.1.2.2.2.2.heap ∧ F.1.2.1.stackTraces = false ∧ (∀ k, k < wN → fad F k < F.1.2.2.2.2.heap.size)
end
section
/-! A CALL by a contract, whichever way it ends -/
section CT
variable {p : Program} {l : Launch} {e : Env} {R : Room} {s : State} {m : MethodId} {args : Array Value} {below : List Frame} {meth : Method} {c : Code} {U : State} {locs : List Loc} {cells slots : Nat}
variable {D : va_G} {G : GC} {ad : Nat → Nat} {y : MethodName} {bytes : ByteArray} {mL fr lo : Nat} {ret : Option FieldType} {av : List Value} {σ : Mem} {ρ : Rs} {g : JFrame} {ig : Instr} {mk : MethodId}
theorem ct_go (X : Stand p l e R s m args below meth c U locs cells slots) (hg : g.method = m) (hsize : g.locals.size = c.maxLocals) (hd : decode c.code g.pc = .ok (ig, 3)) (hW : 2 * g.monitorRoom + (g.stack.map fun v => v.category).sum ≤ 8) (hn : U.methodNamed? y = some mk)
    (hct : Ctr l D G ad y bytes mL ret fr lo av σ ρ) (hcode : (Cond.code y bytes mL ret).before av.toArray U = true) (hini : (Cond.initialized y.cls).before av.toArray U = true) (hfr : fr + 1 ≤ R.frames) (hlo : 8 + (mL + 11) + lo ≤ R.locals) (hrc : cells + rc ρ ≤ R.cells) (hrs : slots + rsl ρ ≤ R.slots)
    (hP : va_P D vcl (wld G ad σ) U.heap) (hE : Env0 D G ad U U.heap) :
    ∃ (o : Outcome) (T' : State) (L : List Loc), Stand p l e R s m args below meth c T' (locs ++ L) (cells + rc ρ) (slots + rsl ρ) ∧ (∀ q ∈ L, wA ad U.heap.size q.base) ∧ Out D G ad ρ U o T' ∧
      (∀ v, o = .returned v → Steps p.tables e below (doInvoke e (U.setTop g) [] mk av.toArray).1 (T'.setTop { g with pc := g.pc + 3, stack := v.toList ++ g.stack })) ∧
      (∀ q, o = .threw q → Steps p.tables e below (doInvoke e (U.setTop g) [] mk av.toArray).1 ((T'.setTop g).pushFrame (.throwing q))) := by
  obtain ⟨methY, cY, hmY, hcY, -, hlY, -, -, -, -⟩ := Cond.code_spec hn hcode
  obtain ⟨kY, hkY, -⟩ := className_of_methodNamed hn
  have hinitY : kY.init = .initialized := Cond.initialized_spec (findClass_of_methodNamed hn) hkY hini
  have hAt : At U g.method c below := by rw [hg]; exact X.here
  have hroom : (U.calling g mk av.toArray).hasRoom e.platform (rmOf fr lo ρ) = true := X.room_calling (g := g) (R' := rmOf fr lo ρ) hsize hmY hcY hfr (by rw [hlY]; show _ + _ + (mL + 11) + lo ≤ _; omega) hrc hrs
  have happ : (headSpec [.code y bytes mL ret] (rmOf fr lo ρ)).appliesLoose y e.platform (U.calling g mk av.toArray) = true :=
    Spec.appliesLoose_calling (g := g) hAt hd hn hkY hinitY hroom (atoms_intro fun w hw => by rw [List.mem_singleton.mp hw]; exact hcode)
  obtain ⟨mid, hmid⟩ := hAt.above
  have hfr2 : (U.setTop g).frames = (.java g :: mid) ++ below := by rw [State.frames_setTop' g hAt.top, hmid]; rfl
  obtain ⟨o, t, hst, -, hend, hq⟩ := Steps.callFree (hct U.heap.size) p X.admits X.cas X.clock (acts := []) hfr2 happ ⟨rfl, rfl, hP, hE.same rfl⟩ trivial
  rw [State.frames_setTop' g hAt.top] at hend
  obtain ⟨hout, L, ⟨hWm, hsm⟩, hL⟩ := hq
  have hW' : U.WarmedH t.vm := hWm
  have hsm : (U.calling g mk av.toArray).sameButNew ({ t with vm := (U.calling g mk av.toArray).vm } : State) L (rc ρ) (rsl ρ) := hsm
  obtain ⟨e2, q2, q3, q4, q5, q6⟩ := hsm
  obtain ⟨g₀, hg0⟩ := Option.isSome_iff_exists.mp hAt.top
  obtain ⟨r, hr⟩ := State.topJava?_eq_some.mp hg0
  obtain ⟨T', hT'⟩ : ∃ z, z = ({ U with heap := t.heap, slotsUsed := t.slotsUsed } : State).setVm t.vm := ⟨_, rfl⟩
  have hr' : T'.frames = .java g₀ :: r := by rw [hT']; exact hr
  have e3 : t = ({ (U.calling g mk av.toArray).setFrames t.frames with heap := t.heap, slotsUsed := t.slotsUsed } : State).setVm t.vm := by
    have : t = ({ t with vm := (U.calling g mk av.toArray).vm } : State).setVm t.vm := rfl
    rw [e2] at this
    exact this
  have hsame : U.sameButNew ({ U with heap := t.heap, slotsUsed := t.slotsUsed } : State) L (rc ρ) (rsl ρ) := by
    refine ⟨?_, q2, q3, q4, q5, q6⟩
    obtain ⟨z, hz, -⟩ := State.frames_cons hr
    show ({ U with heap := t.heap, slotsUsed := t.slotsUsed } : State) = { U.setFrames U.frames with heap := t.heap, slotsUsed := t.slotsUsed }
    rw [State.setFrames_self hz]
  have X' : Stand p l e R s m args below meth c T' (locs ++ L) (cells + rc ρ) (slots + rsl ρ) := by
    rw [hT']
    exact ⟨X.admits, X.cas, X.clock, X.frames, X.room, X.hears, X.method, X.code, (X.here.setHeapUsed t.heap t.slotsUsed).setVm hW'.alike, X.tail, State.WarmedH.trans X.warmed hW', X.limits, X.bytes, X.same.trans (hsame.setVm s.vm)⟩
  have hhp : T'.heap = t.heap := by rw [hT']; rfl
  refine ⟨o, T', L, X', hL, ?_, ?_, ?_⟩
  · obtain ⟨h1, h2, h3⟩ := hout
    refine ⟨?_, by rw [hhp]; exact h2, ?_⟩
    · cases hρ : ρ.1 with
      | inl v => rw [hρ] at h1; exact h1
      | inr n =>
        rw [hρ] at h1
        obtain ⟨q, ce, r1, r2, r3, r4⟩ := h1
        exact ⟨q, ce, r1, by rw [hhp]; exact r2, r3, r4⟩
    · obtain ⟨z1, z2⟩ := h3
      exact ⟨by rw [hhp]; exact z1, fun q a b => by rw [hhp]; exact z2 q a b⟩
  · intro v ho
    subst ho
    obtain ⟨c₂, i₂, len₂, hc₂, hd₂, hf₂⟩ := hend
    have hcc : c₂ = c := by
      have h1 : t.code? g.method = U.code? g.method := by rw [State.code?_eq, State.code?_eq, hW'.alike.method?]
      exact Option.some.inj (hc₂.symm.trans (h1.trans hAt.code))
    subst hcc
    have hlen : len₂ = 3 := by rw [hd] at hd₂; cases hd₂; rfl
    subst hlen
    have ht : t = T'.setTop { g with pc := g.pc + 3, stack := v.toList ++ g.stack } := by
      refine e3.trans ?_
      rw [hf₂, State.calling_eq hAt.top, State.setFrames_setFrames, State.setTop_of_frames _ hr', hT', hr]
      rfl
    rw [← ht]
    exact hst
  · intro q ho
    subst ho
    have hf₂ : t.frames = .throwing q :: .java g :: U.frames.tail := hend
    have ht : t = (T'.setTop g).pushFrame (.throwing q) := by
      refine e3.trans ?_
      rw [hf₂, State.calling_eq hAt.top, State.setFrames_setFrames, State.pushFrame, State.frames_setTop _ hr', State.setTop_of_frames _ hr', State.setFrames_setFrames, hT', hr]
      rfl
    rw [← ht]
    exact hst
end CT
end
