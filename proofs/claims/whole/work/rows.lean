section
-- ===== PART A: goes FIRST, ahead of the names: the tables' words, and 'selects' of the private methods out of them =====
/-- a private method of a class that the tables say can be made, by its rows of tables_1 -/
def lw_okq (q : MethodName × Nat) : Prop := (q.1.cls ≠ "java/lang/invoke/MethodHandle" ∧ q.1.cls ≠ "java/lang/invoke/VarHandle") ∧ Cond.instantiable q.1.cls q.2 ∈ tables_1 ∧ Cond.privateMethod q.1 ∈ tables_1 ∧ Cond.instanceMethod q.1 ∈ tables_1
theorem lw_p0 : lw_okq (⟨"LineFrames$StreamReader", "markAt", "(I)I"⟩, 14) := ⟨⟨by decide +kernel, by decide +kernel⟩, List.mem_of_getElem? (i := 210) (by decide +kernel), List.mem_of_getElem? (i := 371) (by decide +kernel), List.mem_of_getElem? (i := 372) (by decide +kernel)⟩
theorem lw_p1 : lw_okq (⟨"LineFrames$StreamReader", "isTooSoonOrLate", "(I)Z"⟩, 14) := ⟨⟨by decide +kernel, by decide +kernel⟩, List.mem_of_getElem? (i := 210) (by decide +kernel), List.mem_of_getElem? (i := 393) (by decide +kernel), List.mem_of_getElem? (i := 394) (by decide +kernel)⟩
theorem lw_p2 : lw_okq (⟨"LineFrames$StreamReader", "allScanned", "()Z"⟩, 14) := ⟨⟨by decide +kernel, by decide +kernel⟩, List.mem_of_getElem? (i := 210) (by decide +kernel), List.mem_of_getElem? (i := 397) (by decide +kernel), List.mem_of_getElem? (i := 398) (by decide +kernel)⟩
theorem lw_p3 : lw_okq (⟨"LineFrames$StreamReader", "end", "()V"⟩, 14) := ⟨⟨by decide +kernel, by decide +kernel⟩, List.mem_of_getElem? (i := 210) (by decide +kernel), List.mem_of_getElem? (i := 405) (by decide +kernel), List.mem_of_getElem? (i := 406) (by decide +kernel)⟩
theorem lw_p4 : lw_okq (⟨"LineFrames$StreamReader", "lengthAt", "(I)I"⟩, 14) := ⟨⟨by decide +kernel, by decide +kernel⟩, List.mem_of_getElem? (i := 210) (by decide +kernel), List.mem_of_getElem? (i := 413) (by decide +kernel), List.mem_of_getElem? (i := 414) (by decide +kernel)⟩
theorem lw_p5 : lw_okq (⟨"LineFrames$StreamReader", "take", "(III)I"⟩, 14) := ⟨⟨by decide +kernel, by decide +kernel⟩, List.mem_of_getElem? (i := 210) (by decide +kernel), List.mem_of_getElem? (i := 422) (by decide +kernel), List.mem_of_getElem? (i := 423) (by decide +kernel)⟩
theorem lw_p6 : lw_okq (⟨"LineFrames$StreamReader", "takeFrame", "(II)I"⟩, 14) := ⟨⟨by decide +kernel, by decide +kernel⟩, List.mem_of_getElem? (i := 210) (by decide +kernel), List.mem_of_getElem? (i := 426) (by decide +kernel), List.mem_of_getElem? (i := 427) (by decide +kernel)⟩
theorem lw_p7 : lw_okq (⟨"LineFrames$StreamReader", "takePresetsOrTable", "(II)I"⟩, 14) := ⟨⟨by decide +kernel, by decide +kernel⟩, List.mem_of_getElem? (i := 210) (by decide +kernel), List.mem_of_getElem? (i := 434) (by decide +kernel), List.mem_of_getElem? (i := 435) (by decide +kernel)⟩
theorem lw_p8 : lw_okq (⟨"LineFrames$StreamReader", "takePresets", "(II)I"⟩, 14) := ⟨⟨by decide +kernel, by decide +kernel⟩, List.mem_of_getElem? (i := 210) (by decide +kernel), List.mem_of_getElem? (i := 438) (by decide +kernel), List.mem_of_getElem? (i := 439) (by decide +kernel)⟩
theorem lw_p9 : lw_okq (⟨"LineFrames$StreamReader", "takeTable", "(II)I"⟩, 14) := ⟨⟨by decide +kernel, by decide +kernel⟩, List.mem_of_getElem? (i := 210) (by decide +kernel), List.mem_of_getElem? (i := 446) (by decide +kernel), List.mem_of_getElem? (i := 447) (by decide +kernel)⟩
theorem lw_p10 : lw_okq (⟨"LineFrames$StreamReader", "takeRestarts", "(II)I"⟩, 14) := ⟨⟨by decide +kernel, by decide +kernel⟩, List.mem_of_getElem? (i := 210) (by decide +kernel), List.mem_of_getElem? (i := 471) (by decide +kernel), List.mem_of_getElem? (i := 472) (by decide +kernel)⟩
theorem lw_p11 : lw_okq (⟨"LineFrames$StreamReader", "takeScan", "(II)I"⟩, 14) := ⟨⟨by decide +kernel, by decide +kernel⟩, List.mem_of_getElem? (i := 210) (by decide +kernel), List.mem_of_getElem? (i := 475) (by decide +kernel), List.mem_of_getElem? (i := 476) (by decide +kernel)⟩
theorem lw_p12 : lw_okq (⟨"LineFrames$StreamReader", "faultOfPart", "(IIII)I"⟩, 14) := ⟨⟨by decide +kernel, by decide +kernel⟩, List.mem_of_getElem? (i := 210) (by decide +kernel), List.mem_of_getElem? (i := 479) (by decide +kernel), List.mem_of_getElem? (i := 480) (by decide +kernel)⟩
theorem lw_p13 : lw_okq (⟨"LineFrames$StreamReader", "takeNote", "(III)I"⟩, 14) := ⟨⟨by decide +kernel, by decide +kernel⟩, List.mem_of_getElem? (i := 210) (by decide +kernel), List.mem_of_getElem? (i := 483) (by decide +kernel), List.mem_of_getElem? (i := 484) (by decide +kernel)⟩
theorem lw_p14 : lw_okq (⟨"LineFrames$StreamReader", "data", "()V"⟩, 14) := ⟨⟨by decide +kernel, by decide +kernel⟩, List.mem_of_getElem? (i := 210) (by decide +kernel), List.mem_of_getElem? (i := 501) (by decide +kernel), List.mem_of_getElem? (i := 502) (by decide +kernel)⟩
theorem lw_p15 : lw_okq (⟨"LineFrames$Model", "steps", "(I)I"⟩, 9) := ⟨⟨by decide +kernel, by decide +kernel⟩, List.mem_of_getElem? (i := 143) (by decide +kernel), List.mem_of_getElem? (i := 510) (by decide +kernel), List.mem_of_getElem? (i := 511) (by decide +kernel)⟩
def lw_privs_1 : List (MethodName × Nat) := [(⟨"LineFrames$StreamReader", "markAt", "(I)I"⟩, 14), (⟨"LineFrames$StreamReader", "isTooSoonOrLate", "(I)Z"⟩, 14), (⟨"LineFrames$StreamReader", "allScanned", "()Z"⟩, 14), (⟨"LineFrames$StreamReader", "end", "()V"⟩, 14), (⟨"LineFrames$StreamReader", "lengthAt", "(I)I"⟩, 14), (⟨"LineFrames$StreamReader", "take", "(III)I"⟩, 14), (⟨"LineFrames$StreamReader", "takeFrame", "(II)I"⟩, 14), (⟨"LineFrames$StreamReader", "takePresetsOrTable", "(II)I"⟩, 14), (⟨"LineFrames$StreamReader", "takePresets", "(II)I"⟩, 14), (⟨"LineFrames$StreamReader", "takeTable", "(II)I"⟩, 14), (⟨"LineFrames$StreamReader", "takeRestarts", "(II)I"⟩, 14), (⟨"LineFrames$StreamReader", "takeScan", "(II)I"⟩, 14), (⟨"LineFrames$StreamReader", "faultOfPart", "(IIII)I"⟩, 14), (⟨"LineFrames$StreamReader", "takeNote", "(III)I"⟩, 14), (⟨"LineFrames$StreamReader", "data", "()V"⟩, 14), (⟨"LineFrames$Model", "steps", "(I)I"⟩, 9)]
theorem lw_r1 : ∀ q ∈ lw_privs_1, lw_okq q := List.forall_mem_cons.mpr ⟨lw_p0, List.forall_mem_cons.mpr ⟨lw_p1, List.forall_mem_cons.mpr ⟨lw_p2, List.forall_mem_cons.mpr ⟨lw_p3, List.forall_mem_cons.mpr ⟨lw_p4, List.forall_mem_cons.mpr ⟨lw_p5, List.forall_mem_cons.mpr ⟨lw_p6, List.forall_mem_cons.mpr ⟨lw_p7, List.forall_mem_cons.mpr ⟨lw_p8, List.forall_mem_cons.mpr ⟨lw_p9, List.forall_mem_cons.mpr ⟨lw_p10, List.forall_mem_cons.mpr ⟨lw_p11, List.forall_mem_cons.mpr ⟨lw_p12, List.forall_mem_cons.mpr ⟨lw_p13, List.forall_mem_cons.mpr ⟨lw_p14, List.forall_mem_cons.mpr ⟨lw_p15, fun _ h => absurd h List.not_mem_nil⟩⟩⟩⟩⟩⟩⟩⟩⟩⟩⟩⟩⟩⟩⟩⟩
theorem lw_p16 : lw_okq (⟨"LineFrames$StreamReader", "passRestart", "(I)V"⟩, 14) := ⟨⟨by decide +kernel, by decide +kernel⟩, List.mem_of_getElem? (i := 210) (by decide +kernel), List.mem_of_getElem? (i := 524) (by decide +kernel), List.mem_of_getElem? (i := 525) (by decide +kernel)⟩
theorem lw_p17 : lw_okq (⟨"LineFrames$StreamReader", "takeRow", "(IZ)V"⟩, 14) := ⟨⟨by decide +kernel, by decide +kernel⟩, List.mem_of_getElem? (i := 210) (by decide +kernel), List.mem_of_getElem? (i := 541) (by decide +kernel), List.mem_of_getElem? (i := 542) (by decide +kernel)⟩
theorem lw_p18 : lw_okq (⟨"LineFrames$BitSource", "bits", "(I)I"⟩, 5) := ⟨⟨by decide +kernel, by decide +kernel⟩, List.mem_of_getElem? (i := 235) (by decide +kernel), List.mem_of_getElem? (i := 562) (by decide +kernel), List.mem_of_getElem? (i := 563) (by decide +kernel)⟩
theorem lw_p19 : lw_okq (⟨"LineFrames$BitSource", "fetch", "()V"⟩, 5) := ⟨⟨by decide +kernel, by decide +kernel⟩, List.mem_of_getElem? (i := 235) (by decide +kernel), List.mem_of_getElem? (i := 567) (by decide +kernel), List.mem_of_getElem? (i := 568) (by decide +kernel)⟩
theorem lw_p20 : lw_okq (⟨"LineFrames$Model", "toSample", "(I)I"⟩, 9) := ⟨⟨by decide +kernel, by decide +kernel⟩, List.mem_of_getElem? (i := 143) (by decide +kernel), List.mem_of_getElem? (i := 576) (by decide +kernel), List.mem_of_getElem? (i := 577) (by decide +kernel)⟩
theorem lw_p21 : lw_okq (⟨"LineFrames$Model", "learn", "(II)V"⟩, 9) := ⟨⟨by decide +kernel, by decide +kernel⟩, List.mem_of_getElem? (i := 143) (by decide +kernel), List.mem_of_getElem? (i := 581) (by decide +kernel), List.mem_of_getElem? (i := 582) (by decide +kernel)⟩
theorem lw_p22 : lw_okq (⟨"LineFrames$StreamReader", "endScan", "()V"⟩, 14) := ⟨⟨by decide +kernel, by decide +kernel⟩, List.mem_of_getElem? (i := 210) (by decide +kernel), List.mem_of_getElem? (i := 588) (by decide +kernel), List.mem_of_getElem? (i := 589) (by decide +kernel)⟩
theorem lw_p23 : lw_okq (⟨"java/lang/Throwable", "fillInStackTrace", "(I)Ljava/lang/Throwable;"⟩, 6) := ⟨⟨by decide +kernel, by decide +kernel⟩, List.mem_of_getElem? (i := 668) (by decide +kernel), List.mem_of_getElem? (i := 666) (by decide +kernel), List.mem_of_getElem? (i := 667) (by decide +kernel)⟩
theorem lw_p24 : lw_okq (⟨"LineFrames", "wantPicture", "()V"⟩, 6) := ⟨⟨by decide +kernel, by decide +kernel⟩, List.mem_of_getElem? (i := 22) (by decide +kernel), List.mem_of_getElem? (i := 709) (by decide +kernel), List.mem_of_getElem? (i := 710) (by decide +kernel)⟩
theorem lw_p25 : lw_okq (⟨"LineFrames$StreamWriter", "mark", "(I)V"⟩, 4) := ⟨⟨by decide +kernel, by decide +kernel⟩, List.mem_of_getElem? (i := 137) (by decide +kernel), List.mem_of_getElem? (i := 848) (by decide +kernel), List.mem_of_getElem? (i := 849) (by decide +kernel)⟩
theorem lw_p26 : lw_okq (⟨"LineFrames$StreamWriter", "addNotes", "()V"⟩, 4) := ⟨⟨by decide +kernel, by decide +kernel⟩, List.mem_of_getElem? (i := 137) (by decide +kernel), List.mem_of_getElem? (i := 856) (by decide +kernel), List.mem_of_getElem? (i := 857) (by decide +kernel)⟩
theorem lw_p27 : lw_okq (⟨"LineFrames$StreamWriter", "segment", "(II)V"⟩, 4) := ⟨⟨by decide +kernel, by decide +kernel⟩, List.mem_of_getElem? (i := 137) (by decide +kernel), List.mem_of_getElem? (i := 866) (by decide +kernel), List.mem_of_getElem? (i := 867) (by decide +kernel)⟩
theorem lw_p28 : lw_okq (⟨"LineFrames$StreamWriter", "addFrame", "()V"⟩, 4) := ⟨⟨by decide +kernel, by decide +kernel⟩, List.mem_of_getElem? (i := 137) (by decide +kernel), List.mem_of_getElem? (i := 879) (by decide +kernel), List.mem_of_getElem? (i := 880) (by decide +kernel)⟩
theorem lw_p29 : lw_okq (⟨"LineFrames$StreamWriter", "addPresets", "()V"⟩, 4) := ⟨⟨by decide +kernel, by decide +kernel⟩, List.mem_of_getElem? (i := 137) (by decide +kernel), List.mem_of_getElem? (i := 883) (by decide +kernel), List.mem_of_getElem? (i := 884) (by decide +kernel)⟩
theorem lw_p30 : lw_okq (⟨"LineFrames$StreamWriter", "addTables", "()V"⟩, 4) := ⟨⟨by decide +kernel, by decide +kernel⟩, List.mem_of_getElem? (i := 137) (by decide +kernel), List.mem_of_getElem? (i := 888) (by decide +kernel), List.mem_of_getElem? (i := 889) (by decide +kernel)⟩
theorem lw_p31 : lw_okq (⟨"LineFrames$StreamWriter", "addRestarts", "()V"⟩, 4) := ⟨⟨by decide +kernel, by decide +kernel⟩, List.mem_of_getElem? (i := 137) (by decide +kernel), List.mem_of_getElem? (i := 895) (by decide +kernel), List.mem_of_getElem? (i := 896) (by decide +kernel)⟩
def lw_privs_2 : List (MethodName × Nat) := [(⟨"LineFrames$StreamReader", "passRestart", "(I)V"⟩, 14), (⟨"LineFrames$StreamReader", "takeRow", "(IZ)V"⟩, 14), (⟨"LineFrames$BitSource", "bits", "(I)I"⟩, 5), (⟨"LineFrames$BitSource", "fetch", "()V"⟩, 5), (⟨"LineFrames$Model", "toSample", "(I)I"⟩, 9), (⟨"LineFrames$Model", "learn", "(II)V"⟩, 9), (⟨"LineFrames$StreamReader", "endScan", "()V"⟩, 14), (⟨"java/lang/Throwable", "fillInStackTrace", "(I)Ljava/lang/Throwable;"⟩, 6), (⟨"LineFrames", "wantPicture", "()V"⟩, 6), (⟨"LineFrames$StreamWriter", "mark", "(I)V"⟩, 4), (⟨"LineFrames$StreamWriter", "addNotes", "()V"⟩, 4), (⟨"LineFrames$StreamWriter", "segment", "(II)V"⟩, 4), (⟨"LineFrames$StreamWriter", "addFrame", "()V"⟩, 4), (⟨"LineFrames$StreamWriter", "addPresets", "()V"⟩, 4), (⟨"LineFrames$StreamWriter", "addTables", "()V"⟩, 4), (⟨"LineFrames$StreamWriter", "addRestarts", "()V"⟩, 4)]
theorem lw_r2 : ∀ q ∈ lw_privs_2, lw_okq q := List.forall_mem_cons.mpr ⟨lw_p16, List.forall_mem_cons.mpr ⟨lw_p17, List.forall_mem_cons.mpr ⟨lw_p18, List.forall_mem_cons.mpr ⟨lw_p19, List.forall_mem_cons.mpr ⟨lw_p20, List.forall_mem_cons.mpr ⟨lw_p21, List.forall_mem_cons.mpr ⟨lw_p22, List.forall_mem_cons.mpr ⟨lw_p23, List.forall_mem_cons.mpr ⟨lw_p24, List.forall_mem_cons.mpr ⟨lw_p25, List.forall_mem_cons.mpr ⟨lw_p26, List.forall_mem_cons.mpr ⟨lw_p27, List.forall_mem_cons.mpr ⟨lw_p28, List.forall_mem_cons.mpr ⟨lw_p29, List.forall_mem_cons.mpr ⟨lw_p30, List.forall_mem_cons.mpr ⟨lw_p31, fun _ h => absurd h List.not_mem_nil⟩⟩⟩⟩⟩⟩⟩⟩⟩⟩⟩⟩⟩⟩⟩⟩
theorem lw_p32 : lw_okq (⟨"LineFrames$StreamWriter", "scan", "(IIII)V"⟩, 4) := ⟨⟨by decide +kernel, by decide +kernel⟩, List.mem_of_getElem? (i := 137) (by decide +kernel), List.mem_of_getElem? (i := 899) (by decide +kernel), List.mem_of_getElem? (i := 900) (by decide +kernel)⟩
theorem lw_p33 : lw_okq (⟨"LineFrames$StreamWriter", "addScanHead", "(IIII)V"⟩, 4) := ⟨⟨by decide +kernel, by decide +kernel⟩, List.mem_of_getElem? (i := 137) (by decide +kernel), List.mem_of_getElem? (i := 903) (by decide +kernel), List.mem_of_getElem? (i := 904) (by decide +kernel)⟩
theorem lw_p34 : lw_okq (⟨"LineFrames$StreamWriter", "addRow", "(IIIIZ)V"⟩, 4) := ⟨⟨by decide +kernel, by decide +kernel⟩, List.mem_of_getElem? (i := 137) (by decide +kernel), List.mem_of_getElem? (i := 914) (by decide +kernel), List.mem_of_getElem? (i := 915) (by decide +kernel)⟩
theorem lw_p35 : lw_okq (⟨"LineFrames$StreamWriter", "addSample", "(IIIZ)V"⟩, 4) := ⟨⟨by decide +kernel, by decide +kernel⟩, List.mem_of_getElem? (i := 137) (by decide +kernel), List.mem_of_getElem? (i := 918) (by decide +kernel), List.mem_of_getElem? (i := 919) (by decide +kernel)⟩
theorem lw_p36 : lw_okq (⟨"LineFrames$BitSink", "bits", "(II)V"⟩, 3) := ⟨⟨by decide +kernel, by decide +kernel⟩, List.mem_of_getElem? (i := 181) (by decide +kernel), List.mem_of_getElem? (i := 933) (by decide +kernel), List.mem_of_getElem? (i := 934) (by decide +kernel)⟩
theorem lw_p37 : lw_okq (⟨"LineFrames", "wantReading", "()V"⟩, 6) := ⟨⟨by decide +kernel, by decide +kernel⟩, List.mem_of_getElem? (i := 22) (by decide +kernel), List.mem_of_getElem? (i := 988) (by decide +kernel), List.mem_of_getElem? (i := 989) (by decide +kernel)⟩
theorem lw_p38 : lw_okq (⟨"LineFramesModel", "fails", "(I)I"⟩, 65) := ⟨⟨by decide +kernel, by decide +kernel⟩, List.mem_of_getElem? (i := 1010) (by decide +kernel), List.mem_of_getElem? (i := 1224) (by decide +kernel), List.mem_of_getElem? (i := 1225) (by decide +kernel)⟩
theorem lw_p39 : lw_okq (⟨"LineFramesModel", "isComponent", "(I)Z"⟩, 65) := ⟨⟨by decide +kernel, by decide +kernel⟩, List.mem_of_getElem? (i := 1010) (by decide +kernel), List.mem_of_getElem? (i := 1232) (by decide +kernel), List.mem_of_getElem? (i := 1233) (by decide +kernel)⟩
theorem lw_p40 : lw_okq (⟨"LineFramesModel", "lay", "(I)V"⟩, 65) := ⟨⟨by decide +kernel, by decide +kernel⟩, List.mem_of_getElem? (i := 1010) (by decide +kernel), List.mem_of_getElem? (i := 1260) (by decide +kernel), List.mem_of_getElem? (i := 1261) (by decide +kernel)⟩
theorem lw_p41 : lw_okq (⟨"LineFramesModel", "mark", "(II)V"⟩, 65) := ⟨⟨by decide +kernel, by decide +kernel⟩, List.mem_of_getElem? (i := 1010) (by decide +kernel), List.mem_of_getElem? (i := 1264) (by decide +kernel), List.mem_of_getElem? (i := 1265) (by decide +kernel)⟩
theorem lw_p42 : lw_okq (⟨"LineFramesModel", "layWide", "(I)V"⟩, 65) := ⟨⟨by decide +kernel, by decide +kernel⟩, List.mem_of_getElem? (i := 1010) (by decide +kernel), List.mem_of_getElem? (i := 1268) (by decide +kernel), List.mem_of_getElem? (i := 1269) (by decide +kernel)⟩
theorem lw_p43 : lw_okq (⟨"LineFramesModel", "scan", "(III)V"⟩, 65) := ⟨⟨by decide +kernel, by decide +kernel⟩, List.mem_of_getElem? (i := 1010) (by decide +kernel), List.mem_of_getElem? (i := 1272) (by decide +kernel), List.mem_of_getElem? (i := 1273) (by decide +kernel)⟩
theorem lw_p44 : lw_okq (⟨"LineFramesModel", "data", "(III)V"⟩, 65) := ⟨⟨by decide +kernel, by decide +kernel⟩, List.mem_of_getElem? (i := 1010) (by decide +kernel), List.mem_of_getElem? (i := 1276) (by decide +kernel), List.mem_of_getElem? (i := 1277) (by decide +kernel)⟩
theorem lw_p45 : lw_okq (⟨"LineFramesModel", "begin", "(II)V"⟩, 65) := ⟨⟨by decide +kernel, by decide +kernel⟩, List.mem_of_getElem? (i := 1010) (by decide +kernel), List.mem_of_getElem? (i := 1280) (by decide +kernel), List.mem_of_getElem? (i := 1281) (by decide +kernel)⟩
theorem lw_p46 : lw_okq (⟨"LineFramesModel", "tell", "(III)V"⟩, 65) := ⟨⟨by decide +kernel, by decide +kernel⟩, List.mem_of_getElem? (i := 1010) (by decide +kernel), List.mem_of_getElem? (i := 1284) (by decide +kernel), List.mem_of_getElem? (i := 1285) (by decide +kernel)⟩
theorem lw_p47 : lw_okq (⟨"LineFramesModel", "foretold", "(III)I"⟩, 65) := ⟨⟨by decide +kernel, by decide +kernel⟩, List.mem_of_getElem? (i := 1010) (by decide +kernel), List.mem_of_getElem? (i := 1288) (by decide +kernel), List.mem_of_getElem? (i := 1289) (by decide +kernel)⟩
def lw_privs_3 : List (MethodName × Nat) := [(⟨"LineFrames$StreamWriter", "scan", "(IIII)V"⟩, 4), (⟨"LineFrames$StreamWriter", "addScanHead", "(IIII)V"⟩, 4), (⟨"LineFrames$StreamWriter", "addRow", "(IIIIZ)V"⟩, 4), (⟨"LineFrames$StreamWriter", "addSample", "(IIIZ)V"⟩, 4), (⟨"LineFrames$BitSink", "bits", "(II)V"⟩, 3), (⟨"LineFrames", "wantReading", "()V"⟩, 6), (⟨"LineFramesModel", "fails", "(I)I"⟩, 65), (⟨"LineFramesModel", "isComponent", "(I)Z"⟩, 65), (⟨"LineFramesModel", "lay", "(I)V"⟩, 65), (⟨"LineFramesModel", "mark", "(II)V"⟩, 65), (⟨"LineFramesModel", "layWide", "(I)V"⟩, 65), (⟨"LineFramesModel", "scan", "(III)V"⟩, 65), (⟨"LineFramesModel", "data", "(III)V"⟩, 65), (⟨"LineFramesModel", "begin", "(II)V"⟩, 65), (⟨"LineFramesModel", "tell", "(III)V"⟩, 65), (⟨"LineFramesModel", "foretold", "(III)I"⟩, 65)]
theorem lw_r3 : ∀ q ∈ lw_privs_3, lw_okq q := List.forall_mem_cons.mpr ⟨lw_p32, List.forall_mem_cons.mpr ⟨lw_p33, List.forall_mem_cons.mpr ⟨lw_p34, List.forall_mem_cons.mpr ⟨lw_p35, List.forall_mem_cons.mpr ⟨lw_p36, List.forall_mem_cons.mpr ⟨lw_p37, List.forall_mem_cons.mpr ⟨lw_p38, List.forall_mem_cons.mpr ⟨lw_p39, List.forall_mem_cons.mpr ⟨lw_p40, List.forall_mem_cons.mpr ⟨lw_p41, List.forall_mem_cons.mpr ⟨lw_p42, List.forall_mem_cons.mpr ⟨lw_p43, List.forall_mem_cons.mpr ⟨lw_p44, List.forall_mem_cons.mpr ⟨lw_p45, List.forall_mem_cons.mpr ⟨lw_p46, List.forall_mem_cons.mpr ⟨lw_p47, fun _ h => absurd h List.not_mem_nil⟩⟩⟩⟩⟩⟩⟩⟩⟩⟩⟩⟩⟩⟩⟩⟩
theorem lw_p48 : lw_okq (⟨"LineFramesModel", "step", "()I"⟩, 65) := ⟨⟨by decide +kernel, by decide +kernel⟩, List.mem_of_getElem? (i := 1010) (by decide +kernel), List.mem_of_getElem? (i := 1292) (by decide +kernel), List.mem_of_getElem? (i := 1293) (by decide +kernel)⟩
theorem lw_p49 : lw_okq (⟨"LineFramesModel", "clipped", "(I)I"⟩, 65) := ⟨⟨by decide +kernel, by decide +kernel⟩, List.mem_of_getElem? (i := 1010) (by decide +kernel), List.mem_of_getElem? (i := 1296) (by decide +kernel), List.mem_of_getElem? (i := 1297) (by decide +kernel)⟩
theorem lw_p50 : lw_okq (⟨"LineFramesModel", "range", "()I"⟩, 65) := ⟨⟨by decide +kernel, by decide +kernel⟩, List.mem_of_getElem? (i := 1010) (by decide +kernel), List.mem_of_getElem? (i := 1300) (by decide +kernel), List.mem_of_getElem? (i := 1301) (by decide +kernel)⟩
theorem lw_p51 : lw_okq (⟨"LineFramesModel", "lengthOf", "(I)I"⟩, 65) := ⟨⟨by decide +kernel, by decide +kernel⟩, List.mem_of_getElem? (i := 1010) (by decide +kernel), List.mem_of_getElem? (i := 1304) (by decide +kernel), List.mem_of_getElem? (i := 1305) (by decide +kernel)⟩
theorem lw_p52 : lw_okq (⟨"LineFramesModel", "bit", "(I)V"⟩, 65) := ⟨⟨by decide +kernel, by decide +kernel⟩, List.mem_of_getElem? (i := 1010) (by decide +kernel), List.mem_of_getElem? (i := 1308) (by decide +kernel), List.mem_of_getElem? (i := 1309) (by decide +kernel)⟩
theorem lw_p53 : lw_okq (⟨"LineFramesModel", "lowBits", "(II)V"⟩, 65) := ⟨⟨by decide +kernel, by decide +kernel⟩, List.mem_of_getElem? (i := 1010) (by decide +kernel), List.mem_of_getElem? (i := 1312) (by decide +kernel), List.mem_of_getElem? (i := 1313) (by decide +kernel)⟩
theorem lw_p54 : lw_okq (⟨"LineFramesModel", "count", "(III)V"⟩, 65) := ⟨⟨by decide +kernel, by decide +kernel⟩, List.mem_of_getElem? (i := 1010) (by decide +kernel), List.mem_of_getElem? (i := 1316) (by decide +kernel), List.mem_of_getElem? (i := 1317) (by decide +kernel)⟩
theorem lw_p55 : lw_okq (⟨"LineFramesModel", "fill", "()V"⟩, 65) := ⟨⟨by decide +kernel, by decide +kernel⟩, List.mem_of_getElem? (i := 1010) (by decide +kernel), List.mem_of_getElem? (i := 1320) (by decide +kernel), List.mem_of_getElem? (i := 1321) (by decide +kernel)⟩
theorem lw_p56 : lw_okq (⟨"LineFramesModel", "clear", "()V"⟩, 65) := ⟨⟨by decide +kernel, by decide +kernel⟩, List.mem_of_getElem? (i := 1010) (by decide +kernel), List.mem_of_getElem? (i := 1348) (by decide +kernel), List.mem_of_getElem? (i := 1349) (by decide +kernel)⟩
theorem lw_p57 : lw_okq (⟨"LineFramesModel", "isMark", "()Z"⟩, 65) := ⟨⟨by decide +kernel, by decide +kernel⟩, List.mem_of_getElem? (i := 1010) (by decide +kernel), List.mem_of_getElem? (i := 1352) (by decide +kernel), List.mem_of_getElem? (i := 1353) (by decide +kernel)⟩
theorem lw_p58 : lw_okq (⟨"LineFramesModel", "broken", "(II)Z"⟩, 65) := ⟨⟨by decide +kernel, by decide +kernel⟩, List.mem_of_getElem? (i := 1010) (by decide +kernel), List.mem_of_getElem? (i := 1356) (by decide +kernel), List.mem_of_getElem? (i := 1357) (by decide +kernel)⟩
theorem lw_p59 : lw_okq (⟨"LineFramesModel", "takeSegment", "()V"⟩, 65) := ⟨⟨by decide +kernel, by decide +kernel⟩, List.mem_of_getElem? (i := 1010) (by decide +kernel), List.mem_of_getElem? (i := 1360) (by decide +kernel), List.mem_of_getElem? (i := 1361) (by decide +kernel)⟩
theorem lw_p60 : lw_okq (⟨"LineFramesModel", "isSegment", "()Z"⟩, 65) := ⟨⟨by decide +kernel, by decide +kernel⟩, List.mem_of_getElem? (i := 1010) (by decide +kernel), List.mem_of_getElem? (i := 1364) (by decide +kernel), List.mem_of_getElem? (i := 1365) (by decide +kernel)⟩
theorem lw_p61 : lw_okq (⟨"LineFramesModel", "wide", "(I)I"⟩, 65) := ⟨⟨by decide +kernel, by decide +kernel⟩, List.mem_of_getElem? (i := 1010) (by decide +kernel), List.mem_of_getElem? (i := 1368) (by decide +kernel), List.mem_of_getElem? (i := 1369) (by decide +kernel)⟩
theorem lw_p62 : lw_okq (⟨"LineFramesModel", "isFrame", "()Z"⟩, 65) := ⟨⟨by decide +kernel, by decide +kernel⟩, List.mem_of_getElem? (i := 1010) (by decide +kernel), List.mem_of_getElem? (i := 1372) (by decide +kernel), List.mem_of_getElem? (i := 1373) (by decide +kernel)⟩
theorem lw_p63 : lw_okq (⟨"LineFramesModel", "isPreset", "()Z"⟩, 65) := ⟨⟨by decide +kernel, by decide +kernel⟩, List.mem_of_getElem? (i := 1010) (by decide +kernel), List.mem_of_getElem? (i := 1376) (by decide +kernel), List.mem_of_getElem? (i := 1377) (by decide +kernel)⟩
def lw_privs_4 : List (MethodName × Nat) := [(⟨"LineFramesModel", "step", "()I"⟩, 65), (⟨"LineFramesModel", "clipped", "(I)I"⟩, 65), (⟨"LineFramesModel", "range", "()I"⟩, 65), (⟨"LineFramesModel", "lengthOf", "(I)I"⟩, 65), (⟨"LineFramesModel", "bit", "(I)V"⟩, 65), (⟨"LineFramesModel", "lowBits", "(II)V"⟩, 65), (⟨"LineFramesModel", "count", "(III)V"⟩, 65), (⟨"LineFramesModel", "fill", "()V"⟩, 65), (⟨"LineFramesModel", "clear", "()V"⟩, 65), (⟨"LineFramesModel", "isMark", "()Z"⟩, 65), (⟨"LineFramesModel", "broken", "(II)Z"⟩, 65), (⟨"LineFramesModel", "takeSegment", "()V"⟩, 65), (⟨"LineFramesModel", "isSegment", "()Z"⟩, 65), (⟨"LineFramesModel", "wide", "(I)I"⟩, 65), (⟨"LineFramesModel", "isFrame", "()Z"⟩, 65), (⟨"LineFramesModel", "isPreset", "()Z"⟩, 65)]
theorem lw_r4 : ∀ q ∈ lw_privs_4, lw_okq q := List.forall_mem_cons.mpr ⟨lw_p48, List.forall_mem_cons.mpr ⟨lw_p49, List.forall_mem_cons.mpr ⟨lw_p50, List.forall_mem_cons.mpr ⟨lw_p51, List.forall_mem_cons.mpr ⟨lw_p52, List.forall_mem_cons.mpr ⟨lw_p53, List.forall_mem_cons.mpr ⟨lw_p54, List.forall_mem_cons.mpr ⟨lw_p55, List.forall_mem_cons.mpr ⟨lw_p56, List.forall_mem_cons.mpr ⟨lw_p57, List.forall_mem_cons.mpr ⟨lw_p58, List.forall_mem_cons.mpr ⟨lw_p59, List.forall_mem_cons.mpr ⟨lw_p60, List.forall_mem_cons.mpr ⟨lw_p61, List.forall_mem_cons.mpr ⟨lw_p62, List.forall_mem_cons.mpr ⟨lw_p63, fun _ h => absurd h List.not_mem_nil⟩⟩⟩⟩⟩⟩⟩⟩⟩⟩⟩⟩⟩⟩⟩⟩
theorem lw_p64 : lw_okq (⟨"LineFramesModel", "isRestart", "()Z"⟩, 65) := ⟨⟨by decide +kernel, by decide +kernel⟩, List.mem_of_getElem? (i := 1010) (by decide +kernel), List.mem_of_getElem? (i := 1380) (by decide +kernel), List.mem_of_getElem? (i := 1381) (by decide +kernel)⟩
theorem lw_p65 : lw_okq (⟨"LineFramesModel", "isScan", "()Z"⟩, 65) := ⟨⟨by decide +kernel, by decide +kernel⟩, List.mem_of_getElem? (i := 1010) (by decide +kernel), List.mem_of_getElem? (i := 1384) (by decide +kernel), List.mem_of_getElem? (i := 1385) (by decide +kernel)⟩
theorem lw_p66 : lw_okq (⟨"LineFramesModel", "isNote", "()Z"⟩, 65) := ⟨⟨by decide +kernel, by decide +kernel⟩, List.mem_of_getElem? (i := 1010) (by decide +kernel), List.mem_of_getElem? (i := 1388) (by decide +kernel), List.mem_of_getElem? (i := 1389) (by decide +kernel)⟩
theorem lw_p67 : lw_okq (⟨"LineFramesModel", "takeScan", "()V"⟩, 65) := ⟨⟨by decide +kernel, by decide +kernel⟩, List.mem_of_getElem? (i := 1010) (by decide +kernel), List.mem_of_getElem? (i := 1392) (by decide +kernel), List.mem_of_getElem? (i := 1393) (by decide +kernel)⟩
theorem lw_p68 : lw_okq (⟨"LineFramesModel", "hearData", "(II)V"⟩, 65) := ⟨⟨by decide +kernel, by decide +kernel⟩, List.mem_of_getElem? (i := 1010) (by decide +kernel), List.mem_of_getElem? (i := 1396) (by decide +kernel), List.mem_of_getElem? (i := 1397) (by decide +kernel)⟩
theorem lw_p69 : lw_okq (⟨"LineFramesModel", "hearSample", "(III)V"⟩, 65) := ⟨⟨by decide +kernel, by decide +kernel⟩, List.mem_of_getElem? (i := 1010) (by decide +kernel), List.mem_of_getElem? (i := 1400) (by decide +kernel), List.mem_of_getElem? (i := 1401) (by decide +kernel)⟩
theorem lw_p70 : lw_okq (⟨"LineFramesModel", "hear", "()I"⟩, 65) := ⟨⟨by decide +kernel, by decide +kernel⟩, List.mem_of_getElem? (i := 1010) (by decide +kernel), List.mem_of_getElem? (i := 1404) (by decide +kernel), List.mem_of_getElem? (i := 1405) (by decide +kernel)⟩
theorem lw_p71 : lw_okq (⟨"LineFramesModel", "hearBits", "(I)I"⟩, 65) := ⟨⟨by decide +kernel, by decide +kernel⟩, List.mem_of_getElem? (i := 1010) (by decide +kernel), List.mem_of_getElem? (i := 1408) (by decide +kernel), List.mem_of_getElem? (i := 1409) (by decide +kernel)⟩
theorem lw_p72 : lw_okq (⟨"LineFramesModel", "hearEnd", "()V"⟩, 65) := ⟨⟨by decide +kernel, by decide +kernel⟩, List.mem_of_getElem? (i := 1010) (by decide +kernel), List.mem_of_getElem? (i := 1412) (by decide +kernel), List.mem_of_getElem? (i := 1413) (by decide +kernel)⟩
theorem lw_p73 : lw_okq (⟨"LineFramesModel", "hearRestart", "(II)V"⟩, 65) := ⟨⟨by decide +kernel, by decide +kernel⟩, List.mem_of_getElem? (i := 1010) (by decide +kernel), List.mem_of_getElem? (i := 1416) (by decide +kernel), List.mem_of_getElem? (i := 1417) (by decide +kernel)⟩
theorem lw_p74 : lw_okq (⟨"LineFramesModel", "keep", "()V"⟩, 65) := ⟨⟨by decide +kernel, by decide +kernel⟩, List.mem_of_getElem? (i := 1010) (by decide +kernel), List.mem_of_getElem? (i := 1420) (by decide +kernel), List.mem_of_getElem? (i := 1421) (by decide +kernel)⟩
def lw_privs_5 : List (MethodName × Nat) := [(⟨"LineFramesModel", "isRestart", "()Z"⟩, 65), (⟨"LineFramesModel", "isScan", "()Z"⟩, 65), (⟨"LineFramesModel", "isNote", "()Z"⟩, 65), (⟨"LineFramesModel", "takeScan", "()V"⟩, 65), (⟨"LineFramesModel", "hearData", "(II)V"⟩, 65), (⟨"LineFramesModel", "hearSample", "(III)V"⟩, 65), (⟨"LineFramesModel", "hear", "()I"⟩, 65), (⟨"LineFramesModel", "hearBits", "(I)I"⟩, 65), (⟨"LineFramesModel", "hearEnd", "()V"⟩, 65), (⟨"LineFramesModel", "hearRestart", "(II)V"⟩, 65), (⟨"LineFramesModel", "keep", "()V"⟩, 65)]
theorem lw_r5 : ∀ q ∈ lw_privs_5, lw_okq q := List.forall_mem_cons.mpr ⟨lw_p64, List.forall_mem_cons.mpr ⟨lw_p65, List.forall_mem_cons.mpr ⟨lw_p66, List.forall_mem_cons.mpr ⟨lw_p67, List.forall_mem_cons.mpr ⟨lw_p68, List.forall_mem_cons.mpr ⟨lw_p69, List.forall_mem_cons.mpr ⟨lw_p70, List.forall_mem_cons.mpr ⟨lw_p71, List.forall_mem_cons.mpr ⟨lw_p72, List.forall_mem_cons.mpr ⟨lw_p73, List.forall_mem_cons.mpr ⟨lw_p74, fun _ h => absurd h List.not_mem_nil⟩⟩⟩⟩⟩⟩⟩⟩⟩⟩⟩
def lw_privs : List (MethodName × Nat) := lw_privs_1 ++ (lw_privs_2 ++ (lw_privs_3 ++ (lw_privs_4 ++ (lw_privs_5))))
def lw_tbl : List Cond := k2_sels lw_privs ++ tables_1
theorem lw_privs_ok : ∀ q ∈ lw_privs, lw_okq q := by
  show ∀ q ∈ lw_privs_1 ++ (lw_privs_2 ++ (lw_privs_3 ++ (lw_privs_4 ++ (lw_privs_5)))), lw_okq q
  exact List.forall_mem_append.mpr ⟨lw_r1, List.forall_mem_append.mpr ⟨lw_r2, List.forall_mem_append.mpr ⟨lw_r3, List.forall_mem_append.mpr ⟨lw_r4, lw_r5⟩⟩⟩⟩
end
section
def RC0 : String := "LineFrames"
def TC0 : u_T := fun k => match k with
  | 0 => ("LineFrames", "turn", "I", true)
  | 1 => ("LineFrames", "made", "LLineFrames$Picture;", true)
  | 2 => ("LineFrames", "written", "LLineFrames$Bytes;", true)
  | 3 => ("LineFrames", "came", "LLineFrames$Bytes;", true)
  | 4 => ("LineFrames", "writer", "LLineFrames$StreamWriter;", true)
  | _ => ("LineFrames", "reader", "LLineFrames$StreamReader;", true)
def tyC0 : Nat → FieldType := fun k => match k with
  | 0 => .int
  | 1 => .object "LineFrames$Picture"
  | 2 => .object "LineFrames$Bytes"
  | 3 => .object "LineFrames$Bytes"
  | 4 => .object "LineFrames$StreamWriter"
  | _ => .object "LineFrames$StreamReader"
theorem nmC0 : ∀ a, a < 6 → ∀ b, b < 6 → a ≠ b → (TC0 a).2.1 ≠ (TC0 b).2.1 := by decide +kernel
theorem tyC0_ok : ∀ k, k < 6 → parseFieldDescriptor (TC0 k).2.2.1 = some (tyC0 k) := by decide +kernel
def RC1 : String := "LineFrames$BitSink"
def TC1 : u_T := fun k => match k with
  | 0 => ("LineFrames$BitSink", "out", "LLineFrames$Bytes;", true)
  | 1 => ("LineFrames$BitSink", "current", "I", false)
  | _ => ("LineFrames$BitSink", "free", "I", false)
def tyC1 : Nat → FieldType := fun k => match k with
  | 0 => .object "LineFrames$Bytes"
  | 1 => .int
  | _ => .int
theorem nmC1 : ∀ a, a < 3 → ∀ b, b < 3 → a ≠ b → (TC1 a).2.1 ≠ (TC1 b).2.1 := by decide +kernel
theorem tyC1_ok : ∀ k, k < 3 → parseFieldDescriptor (TC1 k).2.2.1 = some (tyC1 k) := by decide +kernel
def RC2 : String := "LineFrames$BitSource"
def TC2 : u_T := fun k => match k with
  | 0 => ("LineFrames$BitSource", "in", "LLineFrames$Bytes;", true)
  | 1 => ("LineFrames$BitSource", "fault", "LLineFrames$Fault;", true)
  | 2 => ("LineFrames$BitSource", "next", "I", false)
  | 3 => ("LineFrames$BitSource", "current", "I", false)
  | _ => ("LineFrames$BitSource", "left", "I", false)
def tyC2 : Nat → FieldType := fun k => match k with
  | 0 => .object "LineFrames$Bytes"
  | 1 => .object "LineFrames$Fault"
  | 2 => .int
  | 3 => .int
  | _ => .int
theorem nmC2 : ∀ a, a < 5 → ∀ b, b < 5 → a ≠ b → (TC2 a).2.1 ≠ (TC2 b).2.1 := by decide +kernel
theorem tyC2_ok : ∀ k, k < 5 → parseFieldDescriptor (TC2 k).2.2.1 = some (tyC2 k) := by decide +kernel
def RC3 : String := "LineFrames$Bytes"
def TC3 : u_T := fun k => match k with
  | 0 => ("LineFrames$Bytes", "cells", "[I", true)
  | _ => ("LineFrames$Bytes", "size", "I", false)
def tyC3 : Nat → FieldType := fun k => match k with
  | 0 => .array .int
  | _ => .int
theorem nmC3 : ∀ a, a < 2 → ∀ b, b < 2 → a ≠ b → (TC3 a).2.1 ≠ (TC3 b).2.1 := by decide +kernel
theorem tyC3_ok : ∀ k, k < 2 → parseFieldDescriptor (TC3 k).2.2.1 = some (tyC3 k) := by decide +kernel
def RC4 : String := "LineFrames$Fault"
def TC4 : u_T := fun k => match k with
  | 0 => ("LineFrames$Fault", "number", "I", false)
  | _ => ("LineFrames$Fault", "place", "I", false)
def tyC4 : Nat → FieldType := fun k => match k with
  | 0 => .int
  | _ => .int
theorem nmC4 : ∀ a, a < 2 → ∀ b, b < 2 → a ≠ b → (TC4 a).2.1 ≠ (TC4 b).2.1 := by decide +kernel
theorem tyC4_ok : ∀ k, k < 2 → parseFieldDescriptor (TC4 k).2.2.1 = some (tyC4 k) := by decide +kernel
def RC5 : String := "LineFrames$Model"
def TC5 : u_T := fun k => match k with
  | 0 => ("LineFrames$Model", "samples", "LLineFrames$Row;", true)
  | 1 => ("LineFrames$Model", "sums", "LLineFrames$Row;", true)
  | 2 => ("LineFrames$Model", "counts", "LLineFrames$Row;", true)
  | 3 => ("LineFrames$Model", "top", "I", false)
  | 4 => ("LineFrames$Model", "near", "I", false)
  | 5 => ("LineFrames$Model", "step", "I", false)
  | 6 => ("LineFrames$Model", "range", "I", false)
  | 7 => ("LineFrames$Model", "reset", "I", false)
  | _ => ("LineFrames$Model", "start", "I", false)
def tyC5 : Nat → FieldType := fun k => match k with
  | 0 => .object "LineFrames$Row"
  | 1 => .object "LineFrames$Row"
  | 2 => .object "LineFrames$Row"
  | 3 => .int
  | 4 => .int
  | 5 => .int
  | 6 => .int
  | 7 => .int
  | _ => .int
theorem nmC5 : ∀ a, a < 9 → ∀ b, b < 9 → a ≠ b → (TC5 a).2.1 ≠ (TC5 b).2.1 := by decide +kernel
theorem tyC5_ok : ∀ k, k < 9 → parseFieldDescriptor (TC5 k).2.2.1 = some (tyC5 k) := by decide +kernel
def RC6 : String := "LineFrames$Notes"
def TC6 : u_T := fun k => match k with
  | 0 => ("LineFrames$Notes", "kinds", "LLineFrames$Row;", true)
  | 1 => ("LineFrames$Notes", "sizes", "LLineFrames$Row;", true)
  | 2 => ("LineFrames$Notes", "cells", "LLineFrames$Row;", true)
  | _ => ("LineFrames$Notes", "count", "I", false)
def tyC6 : Nat → FieldType := fun k => match k with
  | 0 => .object "LineFrames$Row"
  | 1 => .object "LineFrames$Row"
  | 2 => .object "LineFrames$Row"
  | _ => .int
theorem nmC6 : ∀ a, a < 4 → ∀ b, b < 4 → a ≠ b → (TC6 a).2.1 ≠ (TC6 b).2.1 := by decide +kernel
theorem tyC6_ok : ∀ k, k < 4 → parseFieldDescriptor (TC6 k).2.2.1 = some (tyC6 k) := by decide +kernel
def RC7 : String := "LineFrames$Picture"
def TC7 : u_T := fun k => match k with
  | 0 => ("LineFrames$Picture", "samples", "LLineFrames$Row;", true)
  | 1 => ("LineFrames$Picture", "presets", "LLineFrames$Row;", true)
  | 2 => ("LineFrames$Picture", "tabled", "LLineFrames$Row;", true)
  | 3 => ("LineFrames$Picture", "numbers", "LLineFrames$Row;", true)
  | 4 => ("LineFrames$Picture", "notes", "LLineFrames$Notes;", true)
  | 5 => ("LineFrames$Picture", "width", "I", false)
  | 6 => ("LineFrames$Picture", "height", "I", false)
  | 7 => ("LineFrames$Picture", "bits", "I", false)
  | _ => ("LineFrames$Picture", "components", "I", false)
def tyC7 : Nat → FieldType := fun k => match k with
  | 0 => .object "LineFrames$Row"
  | 1 => .object "LineFrames$Row"
  | 2 => .object "LineFrames$Row"
  | 3 => .object "LineFrames$Row"
  | 4 => .object "LineFrames$Notes"
  | 5 => .int
  | 6 => .int
  | 7 => .int
  | _ => .int
theorem nmC7 : ∀ a, a < 9 → ∀ b, b < 9 → a ≠ b → (TC7 a).2.1 ≠ (TC7 b).2.1 := by decide +kernel
theorem tyC7_ok : ∀ k, k < 9 → parseFieldDescriptor (TC7 k).2.2.1 = some (tyC7 k) := by decide +kernel
def RC8 : String := "LineFrames$Row"
def TC8 : u_T := fun k => match k with
  | _ => ("LineFrames$Row", "cells", "[I", true)
def tyC8 : Nat → FieldType := fun k => match k with
  | _ => .array .int
theorem nmC8 : ∀ a, a < 1 → ∀ b, b < 1 → a ≠ b → (TC8 a).2.1 ≠ (TC8 b).2.1 := by decide +kernel
theorem tyC8_ok : ∀ k, k < 1 → parseFieldDescriptor (TC8 k).2.2.1 = some (tyC8 k) := by decide +kernel
def RC9 : String := "LineFrames$StreamReader"
def TC9 : u_T := fun k => match k with
  | 0 => ("LineFrames$StreamReader", "in", "LLineFrames$Bytes;", true)
  | 1 => ("LineFrames$StreamReader", "got", "LLineFrames$Picture;", true)
  | 2 => ("LineFrames$StreamReader", "fault", "LLineFrames$Fault;", true)
  | 3 => ("LineFrames$StreamReader", "bits", "LLineFrames$BitSource;", true)
  | 4 => ("LineFrames$StreamReader", "model", "LLineFrames$Model;", true)
  | 5 => ("LineFrames$StreamReader", "scanned", "LLineFrames$Row;", true)
  | 6 => ("LineFrames$StreamReader", "next", "I", false)
  | 7 => ("LineFrames$StreamReader", "whole", "Z", false)
  | 8 => ("LineFrames$StreamReader", "first", "I", false)
  | 9 => ("LineFrames$StreamReader", "count", "I", false)
  | 10 => ("LineFrames$StreamReader", "near", "I", false)
  | 11 => ("LineFrames$StreamReader", "turn", "I", false)
  | 12 => ("LineFrames$StreamReader", "restarts", "I", false)
  | _ => ("LineFrames$StreamReader", "scans", "I", false)
def tyC9 : Nat → FieldType := fun k => match k with
  | 0 => .object "LineFrames$Bytes"
  | 1 => .object "LineFrames$Picture"
  | 2 => .object "LineFrames$Fault"
  | 3 => .object "LineFrames$BitSource"
  | 4 => .object "LineFrames$Model"
  | 5 => .object "LineFrames$Row"
  | 6 => .int
  | 7 => .boolean
  | 8 => .int
  | 9 => .int
  | 10 => .int
  | 11 => .int
  | 12 => .int
  | _ => .int
theorem nmC9 : ∀ a, a < 14 → ∀ b, b < 14 → a ≠ b → (TC9 a).2.1 ≠ (TC9 b).2.1 := by decide +kernel
theorem tyC9_ok : ∀ k, k < 14 → parseFieldDescriptor (TC9 k).2.2.1 = some (tyC9 k) := by decide +kernel
def RC10 : String := "LineFrames$StreamWriter"
def TC10 : u_T := fun k => match k with
  | 0 => ("LineFrames$StreamWriter", "picture", "LLineFrames$Picture;", true)
  | 1 => ("LineFrames$StreamWriter", "out", "LLineFrames$Bytes;", true)
  | 2 => ("LineFrames$StreamWriter", "model", "LLineFrames$Model;", true)
  | _ => ("LineFrames$StreamWriter", "bits", "LLineFrames$BitSink;", true)
def tyC10 : Nat → FieldType := fun k => match k with
  | 0 => .object "LineFrames$Picture"
  | 1 => .object "LineFrames$Bytes"
  | 2 => .object "LineFrames$Model"
  | _ => .object "LineFrames$BitSink"
theorem nmC10 : ∀ a, a < 4 → ∀ b, b < 4 → a ≠ b → (TC10 a).2.1 ≠ (TC10 b).2.1 := by decide +kernel
theorem tyC10_ok : ∀ k, k < 4 → parseFieldDescriptor (TC10 k).2.2.1 = some (tyC10 k) := by decide +kernel
def RC11 : String := "LineFramesModel"
def TC11 : u_T := fun k => match k with
  | 0 => ("LineFramesModel", "turn", "I", true)
  | 1 => ("LineFramesModel", "thrown", "I", false)
  | 2 => ("LineFramesModel", "width", "I", false)
  | 3 => ("LineFramesModel", "height", "I", false)
  | 4 => ("LineFramesModel", "bits", "I", false)
  | 5 => ("LineFramesModel", "components", "I", false)
  | 6 => ("LineFramesModel", "samples", "[I", true)
  | 7 => ("LineFramesModel", "hasTable", "[Z", true)
  | 8 => ("LineFramesModel", "tables", "[I", true)
  | 9 => ("LineFramesModel", "reset", "I", false)
  | 10 => ("LineFramesModel", "start", "I", false)
  | 11 => ("LineFramesModel", "restart", "I", false)
  | 12 => ("LineFramesModel", "notes", "I", false)
  | 13 => ("LineFramesModel", "noteKinds", "[I", true)
  | 14 => ("LineFramesModel", "noteSizes", "[I", true)
  | 15 => ("LineFramesModel", "noteBytes", "[I", true)
  | 16 => ("LineFramesModel", "written", "[I", true)
  | 17 => ("LineFramesModel", "writtenSize", "I", false)
  | 18 => ("LineFramesModel", "came", "[I", true)
  | 19 => ("LineFramesModel", "cameSize", "I", false)
  | 20 => ("LineFramesModel", "isRead", "Z", false)
  | 21 => ("LineFramesModel", "got", "[I", true)
  | 22 => ("LineFramesModel", "gotSamples", "[I", true)
  | 23 => ("LineFramesModel", "gotHasTable", "[Z", true)
  | 24 => ("LineFramesModel", "gotTables", "[I", true)
  | 25 => ("LineFramesModel", "gotKinds", "[I", true)
  | 26 => ("LineFramesModel", "gotSizes", "[I", true)
  | 27 => ("LineFramesModel", "gotBytes", "[I", true)
  | 28 => ("LineFramesModel", "fault", "I", false)
  | 29 => ("LineFramesModel", "place", "I", false)
  | 30 => ("LineFramesModel", "met", "I", false)
  | 31 => ("LineFramesModel", "whole", "I", false)
  | 32 => ("LineFramesModel", "p", "I", false)
  | 33 => ("LineFramesModel", "hasFrame", "Z", false)
  | 34 => ("LineFramesModel", "newWidth", "I", false)
  | 35 => ("LineFramesModel", "newHeight", "I", false)
  | 36 => ("LineFramesModel", "newBits", "I", false)
  | 37 => ("LineFramesModel", "newComponents", "I", false)
  | 38 => ("LineFramesModel", "newReset", "I", false)
  | 39 => ("LineFramesModel", "newStart", "I", false)
  | 40 => ("LineFramesModel", "newRestart", "I", false)
  | 41 => ("LineFramesModel", "newNotes", "I", false)
  | 42 => ("LineFramesModel", "newNear", "I", false)
  | 43 => ("LineFramesModel", "newTurn", "I", false)
  | 44 => ("LineFramesModel", "newSamples", "[I", true)
  | 45 => ("LineFramesModel", "newHasTable", "[Z", true)
  | 46 => ("LineFramesModel", "newTables", "[I", true)
  | 47 => ("LineFramesModel", "newKinds", "[I", true)
  | 48 => ("LineFramesModel", "newSizes", "[I", true)
  | 49 => ("LineFramesModel", "newBytes", "[I", true)
  | 50 => ("LineFramesModel", "hadScan", "[Z", true)
  | 51 => ("LineFramesModel", "told", "[I", true)
  | 52 => ("LineFramesModel", "sums", "[I", true)
  | 53 => ("LineFramesModel", "numbers", "[I", true)
  | 54 => ("LineFramesModel", "near", "I", false)
  | 55 => ("LineFramesModel", "top", "I", false)
  | 56 => ("LineFramesModel", "firstRow", "I", false)
  | 57 => ("LineFramesModel", "now", "I", false)
  | 58 => ("LineFramesModel", "used", "I", false)
  | 59 => ("LineFramesModel", "most", "I", false)
  | 60 => ("LineFramesModel", "next", "I", false)
  | 61 => ("LineFramesModel", "current", "I", false)
  | 62 => ("LineFramesModel", "left", "I", false)
  | 63 => ("LineFramesModel", "standsAt", "I", false)
  | _ => ("LineFramesModel", "isBehind", "Z", false)
def tyC11 : Nat → FieldType := fun k => match k with
  | 0 => .int
  | 1 => .int
  | 2 => .int
  | 3 => .int
  | 4 => .int
  | 5 => .int
  | 6 => .array .int
  | 7 => .array .boolean
  | 8 => .array .int
  | 9 => .int
  | 10 => .int
  | 11 => .int
  | 12 => .int
  | 13 => .array .int
  | 14 => .array .int
  | 15 => .array .int
  | 16 => .array .int
  | 17 => .int
  | 18 => .array .int
  | 19 => .int
  | 20 => .boolean
  | 21 => .array .int
  | 22 => .array .int
  | 23 => .array .boolean
  | 24 => .array .int
  | 25 => .array .int
  | 26 => .array .int
  | 27 => .array .int
  | 28 => .int
  | 29 => .int
  | 30 => .int
  | 31 => .int
  | 32 => .int
  | 33 => .boolean
  | 34 => .int
  | 35 => .int
  | 36 => .int
  | 37 => .int
  | 38 => .int
  | 39 => .int
  | 40 => .int
  | 41 => .int
  | 42 => .int
  | 43 => .int
  | 44 => .array .int
  | 45 => .array .boolean
  | 46 => .array .int
  | 47 => .array .int
  | 48 => .array .int
  | 49 => .array .int
  | 50 => .array .boolean
  | 51 => .array .int
  | 52 => .array .int
  | 53 => .array .int
  | 54 => .int
  | 55 => .int
  | 56 => .int
  | 57 => .int
  | 58 => .int
  | 59 => .int
  | 60 => .int
  | 61 => .int
  | 62 => .int
  | 63 => .int
  | _ => .boolean
theorem nmC11 : ∀ a, a < 65 → ∀ b, b < 65 → a ≠ b → (TC11 a).2.1 ≠ (TC11 b).2.1 := by decide +kernel
theorem tyC11_ok : ∀ k, k < 65 → parseFieldDescriptor (TC11 k).2.2.1 = some (tyC11 k) := by decide +kernel
abbrev vcl : List vw_C := [(RC0, TC0, 6), (RC1, TC1, 3), (RC2, TC2, 5), (RC3, TC3, 2), (RC4, TC4, 2), (RC5, TC5, 9), (RC6, TC6, 4), (RC7, TC7, 9), (RC8, TC8, 1), (RC9, TC9, 14), (RC10, TC10, 4), (RC11, TC11, 65)]
/-! the layout of the world: kinds (a class number, 100 int[], 101 boolean[], 102 long[]), lengths, targets -/
abbrev wN : Nat := 83
def wkdL : List Nat := [0, 7, 8, 100, 8, 100, 8, 100, 8, 100, 6, 8, 100, 8, 100, 8, 100, 3, 100, 3, 100, 10, 5, 8, 100, 8, 100, 8, 100, 1, 9, 7, 8, 100, 8, 100, 8, 100, 8, 100, 6, 8, 100, 8, 100, 8, 100, 4, 2, 5, 8, 100, 8, 100, 8, 100, 11, 100, 101, 100, 100, 100, 100, 100, 100, 100, 100, 101, 100, 100, 100, 100, 100, 101, 100, 100, 100, 100, 101, 100, 100, 100, 102]
def wlnL : List Nat := [0, 0, 0, 576, 0, 3, 0, 4, 0, 1024, 0, 0, 6, 0, 6, 0, 180, 0, 6000, 0, 6000, 0, 0, 0, 576, 0, 4, 0, 4, 0, 0, 0, 0, 576, 0, 3, 0, 4, 0, 1024, 0, 0, 6, 0, 6, 0, 180, 0, 0, 0, 0, 4, 0, 4, 0, 4, 0, 576, 4, 1024, 6, 6, 180, 9000, 6000, 10, 576, 4, 1024, 6, 6, 180, 576, 4, 1024, 6, 6, 180, 4, 576, 4, 4, 1]
def wtgL : List (List Nat) := [[0, 1, 17, 19, 21, 30], [2, 4, 6, 8, 10, 0, 0, 0, 0], [3], [], [5], [], [7], [], [9], [], [11, 13, 15, 0], [12], [], [14], [], [16], [], [18, 0], [], [20, 0], [], [1, 17, 22, 29], [23, 25, 27, 0, 0, 0, 0, 0, 0], [24], [], [26], [], [28], [], [17, 0, 0], [19, 31, 47, 48, 49, 54, 0, 0, 0, 0, 0, 0, 0, 0], [32, 34, 36, 38, 40, 0, 0, 0, 0], [33], [], [35], [], [37], [], [39], [], [41, 43, 45, 0], [42], [], [44], [], [46], [], [0, 0], [19, 47, 0, 0, 0], [32, 50, 52, 0, 0, 0, 0, 0, 0], [51], [], [53], [], [55], [], [0, 0, 0, 0, 0, 0, 57, 58, 59, 0, 0, 0, 0, 60, 61, 62, 63, 0, 64, 0, 0, 65, 66, 67, 68, 69, 70, 71, 0, 0, 0, 0, 0, 0, 0, 0, 0, 0, 0, 0, 0, 0, 0, 0, 72, 73, 74, 75, 76, 77, 78, 79, 80, 81, 0, 0, 0, 0, 0, 0, 0, 0, 0, 0, 0], [], [], [], [], [], [], [], [], [], [], [], [], [], [], [], [], [], [], [], [], [], [], [], [], [], []]
def wnfL : List Nat := [6, 3, 5, 2, 2, 9, 4, 9, 1, 14, 4, 65]
def wrfL : List (List Bool) := [[false, true, true, true, true, true], [true, false, false], [true, true, false, false, false], [true, false], [false, false], [true, true, true, false, false, false, false, false, false], [true, true, true, false], [true, true, true, true, true, false, false, false, false], [true], [true, true, true, true, true, true, false, false, false, false, false, false, false, false], [true, true, true, true], [false, false, false, false, false, false, true, true, true, false, false, false, false, true, true, true, true, false, true, false, false, true, true, true, true, true, true, true, false, false, false, false, false, false, false, false, false, false, false, false, false, false, false, false, true, true, true, true, true, true, true, true, true, true, false, false, false, false, false, false, false, false, false, false, false]]
def wkd (k : Nat) : Nat := wkdL.getD k 0
def wln (k : Nat) : Nat := wlnL.getD k 0
def wtg (k j : Nat) : Nat := (wtgL.getD k []).getD j 0
def wnf (c : Nat) : Nat := wnfL.getD c 0
def wrf (c j : Nat) : Bool := (wrfL.getD c []).getD j false
def strL : List (String × Nat × String) := [("LineFrames", 63, "no such picture"), ("LineFrames", 273, "there is no picture"), ("LineFrames", 84, "no such sample"), ("LineFrames", 91, "no value of a sample"), ("LineFrames", 115, "no such preset"), ("LineFrames", 123, "no such component"), ("LineFrames", 126, "no sample, or no number that it may stand for"), ("LineFrames", 142, "no kind of a note"), ("LineFrames", 156, "no room for a note"), ("LineFrames", 165, "no such note"), ("LineFrames", 278, "no byte"), ("LineFrames", 173, "no room in the note"), ("LineFrames", 178, "no such NEAR"), ("LineFrames", 188, "no such byte was written"), ("LineFrames", 194, "no room for a byte"), ("LineFrames", 199, "fewer than no bytes"), ("LineFrames", 201, "no room for so many bytes"), ("LineFrames", 203, "no such byte came"), ("LineFrames", 276, "nothing was read"), ("LineFrames", 253, "no such note, or no such byte of it")]
end
section
/-! THE WORLD: 83 cells that stay where they are; their numbers are a memory Mem -/
abbrev Mem : Type := Nat → Nat → Int32
abbrev Rs : Type := (Option Value ⊕ Nat) × Mem
abbrev GC : Type := ClassId × ClassId × ClassId
def mput (σ : Mem) (k j : Nat) (v : Int32) : Mem := fun a => if a = k then upd (σ k) j v else σ a
theorem mput_self {σ : Mem} {k j : Nat} {v : Int32} : mput σ k j v k = upd (σ k) j v := if_pos rfl
theorem mput_ne {σ : Mem} {k j a : Nat} {v : Int32} (h : a ≠ k) : mput σ k j v a = σ a := if_neg h
/-- a named step: what follows speaks of it by its name -/
def lt {α β : Type} (e : α) (K : α → β) : β := K e
def wfl (ad : Nat → Nat) (σ : Mem) (k : Nat) : List Value := (List.range (wnf (wkd k))).map fun j => if wrf (wkd k) j = true then Value.ref (ad (wtg k j)) else .int (σ k j)
def wce (G : GC) (ad : Nat → Nat) (σ : Mem) (k : Nat) : va_E :=
  if wkd k = 100 then .inl (G.1, wln k, .inl (σ k)) else if wkd k = 101 then .inl (G.2.1, wln k, .inl (σ k)) else if wkd k = 102 then .inl (G.2.2, wln k, .inr (.inl fun j => (σ k j).toInt64)) else .inr (wkd k, wfl ad σ k)
def wld (G : GC) (ad : Nat → Nat) (σ : Mem) : va_W := (List.range wN).map fun k => (ad k, wce G ad σ k)
section WL
variable {G : GC} {ad : Nat → Nat} {σ : Mem} {k j c i : Nat} {v : Int32}
theorem wld_len : (wld G ad σ).length = wN := by simp [wld]
theorem wld_at (h : k < wN) : (wld G ad σ)[k]? = some (ad k, wce G ad σ k) := by simp [wld, h]
theorem wld_of {q : Nat × va_E} (h : (wld G ad σ)[k]? = some q) : k < wN ∧ q = (ad k, wce G ad σ k) := by
  have hl : k < wN := by
    have := (List.getElem?_eq_some_iff.mp h).1
    rwa [wld_len] at this
  rw [wld_at hl] at h
  exact ⟨hl, (Option.some.inj h).symm⟩
theorem wfl_len (hc : wkd k = c) : (wfl ad σ k).length = wnf c := by simp [wfl, hc]
theorem wfl_at (hc : wkd k = c) (hj : j < wnf c) : (wfl ad σ k)[j]? = some (if wrf c j = true then Value.ref (ad (wtg k j)) else .int (σ k j)) := by
  simp [wfl, hc, hj]
theorem wld_obj (h : k < wN) (hc : wkd k = c) (hl : c < 100) : (wld G ad σ)[k]? = some (ad k, .inr (c, wfl ad σ k)) := by
  rw [wld_at h, wce, hc, if_neg (by omega), if_neg (by omega), if_neg (by omega)]
theorem wld_int (h : k < wN) (hc : wkd k = 100) : (wld G ad σ)[k]? = some (ad k, .inl (G.1, wln k, .inl (σ k))) := by
  rw [wld_at h, wce, if_pos hc]
theorem wld_bool (h : k < wN) (hc : wkd k = 101) : (wld G ad σ)[k]? = some (ad k, .inl (G.2.1, wln k, .inl (σ k))) := by
  rw [wld_at h, wce, hc, if_neg (by decide), if_pos rfl]
theorem wld_long (h : k < wN) (hc : wkd k = 102) : (wld G ad σ)[k]? = some (ad k, .inl (G.2.2, wln k, .inr (.inl fun j => (σ k j).toInt64))) := by
  rw [wld_at h, wce, hc, if_neg (by decide), if_neg (by decide), if_pos rfl]
theorem wce_ne (h : i ≠ k) : wce G ad (mput σ k j v) i = wce G ad σ i := by
  simp only [wce, wfl, mput_ne h]
theorem wld_set {e : va_E} (h : k < wN) (he : e = wce G ad (mput σ k j v) k) : (wld G ad σ).set k (ad k, e) = wld G ad (mput σ k j v) := by
  apply List.ext_getElem?
  intro i
  by_cases hi : i = k
  · subst hi
    rw [List.getElem?_set_self (by rw [wld_len]; exact h), wld_at h, he]
  · rw [List.getElem?_set_ne (Ne.symm hi)]
    by_cases hl : i < wN
    · rw [wld_at hl, wld_at hl, wce_ne hi]
    · rw [List.getElem?_eq_none (by rw [wld_len]; omega), List.getElem?_eq_none (by rw [wld_len]; omega)]
theorem wfl_put (hc : wkd k = c) (hj : j < wnf c) (hr : wrf c j = false) : (wfl ad σ k).set j (.int v) = wfl ad (mput σ k j v) k := by
  apply List.ext_getElem?
  intro i
  by_cases hi : i = j
  · subst hi
    rw [List.getElem?_set_self (by rw [wfl_len hc]; exact hj), wfl_at hc hj, hr]
    simp [mput_self, upd]
  · rw [List.getElem?_set_ne (Ne.symm hi)]
    by_cases hl : i < wnf c
    · rw [wfl_at hc hl, wfl_at hc hl]
      simp [mput_self, upd, hi]
    · rw [List.getElem?_eq_none (by rw [wfl_len hc]; omega), List.getElem?_eq_none (by rw [wfl_len hc]; omega)]
theorem wld_put (h : k < wN) (hc : wkd k = c) (hl : c < 100) (hj : j < wnf c) (hr : wrf c j = false) : (wld G ad σ).set k (ad k, .inr (c, (wfl ad σ k).set j (.int v))) = wld G ad (mput σ k j v) := by
  refine wld_set h ?_
  rw [wfl_put hc hj hr, wce, hc, if_neg (by omega), if_neg (by omega), if_neg (by omega)]
theorem wld_iput (h : k < wN) (hc : wkd k = 100) : (wld G ad σ).set k (ad k, .inl (G.1, wln k, .inl (upd (σ k) j v))) = wld G ad (mput σ k j v) := by
  refine wld_set h ?_
  rw [wce, if_pos hc, mput_self]
theorem wld_zput (h : k < wN) (hc : wkd k = 101) : (wld G ad σ).set k (ad k, .inl (G.2.1, wln k, .inl (upd (σ k) j v))) = wld G ad (mput σ k j v) := by
  refine wld_set h ?_
  rw [wce, hc, if_neg (by decide), if_pos rfl, mput_self]
theorem wld_lput (h : k < wN) (hc : wkd k = 102) : (wld G ad σ).set k (ad k, .inl (G.2.2, wln k, .inr (.inl (vp_updL (fun j => (σ k j).toInt64) j v.toInt64)))) = wld G ad (mput σ k j v) := by
  refine wld_set h ?_
  rw [wce, hc, if_neg (by decide), if_neg (by decide), if_pos rfl, mput_self]
  congr 5
  funext i
  by_cases hi : i = j
  · simp [vp_updL, upd, hi]
  · simp [vp_updL, upd, hi]
end WL
/-! the words that stay true -/
def stb : Cond → Bool
  | .fieldLinkNest .. => true
  | .methodLinkNest .. => true
  | .declares _ => true
  | .castable .. => true
  | w => w.onTables && w.keeps
def Wds (U : State) : Prop := ∀ w ∈ lw_tbl, stb w = true → ∀ a : Array Value, w.before a U = true
theorem stb_tab {w : Cond} (h : stb w = true) : w.onTables = true := by
  cases w <;> first | rfl | (simp only [stb, Bool.and_eq_true] at h; exact h.1)
theorem Wds.of {A : Array Value} {s : State} (h : ∀ w ∈ lw_tbl, w.before A s = true) : Wds s := fun w hw hg a => va_tabs (stb_tab hg) rfl (h w hw)
theorem castable_warm {x y : String} {s U : State} {a b : Array Value} (hW : s.WarmedH U.vm) (h : (Cond.castable x y).before a s = true) : (Cond.castable x y).before b U = true := by
  obtain ⟨c1, c2, h1, h2, h3⟩ := Cond.castable_spec h
  have g1 : U.vm.findClass x = some c1 := by rw [hW.alike.findClass]; exact h1
  have g2 : U.vm.findClass y = some c2 := by rw [hW.alike.findClass]; exact h2
  have g3 : U.vm.assignable c1 c2 = true := by rw [hW.alike.assignable]; exact h3
  simp [Cond.before, Cond.holds, Cond.value, g1, g2, g3]
theorem stb_warm {w : Cond} {s U : State} {a : Array Value} (hg : stb w = true) (hW : s.WarmedH U.vm) (h : ∀ a : Array Value, w.before a s = true) : w.before a U = true := by
  have key : ∀ w : Cond, (w.onTables && w.keeps) = true → (∀ a : Array Value, w.before a s = true) → w.before a U = true := fun w g h => word_at hW (Or.inl g) (h #[])
  cases w <;> first
    | exact va_tabs (A := #[]) rfl (rfl : (s.setVm U.vm).vm = U.vm) (Cond.fieldLinkNest_warmed (args := #[]) hW (h #[]))
    | exact va_tabs (A := #[]) rfl (rfl : (s.setVm U.vm).vm = U.vm) (Cond.methodLinkNest_warmed (args := #[]) hW (h #[]))
    | exact va_tabs (A := #[]) rfl (rfl : (s.setVm U.vm).vm = U.vm) (by rw [Cond.declares_setVm hW.alike]; exact h #[])
    | exact castable_warm hW (h #[])
    | exact key _ hg h
theorem Wds.warm {s U : State} (hW : s.WarmedH U.vm) (h : Wds s) : Wds U := fun w hw hg a => stb_warm hg hW (h w hw hg)
theorem Wds.same {s U : State} (hv : s.vm = U.vm) (h : Wds s) : Wds U := fun w hw hg a => va_tabs (stb_tab hg) hv (h w hw hg a)
/-- a static of the library's that is null or a reference: it hangs on the tables and on one cell that the world has not -/
def SF (n d : String) (A : Nat → Prop) (U : State) (H : Heap) : Prop :=
  ∃ (a : Nat) (cell : Cell), H[a]? = some cell ∧ cell.vm.isStatics = true ∧ ¬ A a ∧ ∀ (U' : State) (g : Array Value), U.vm.Alike U'.vm → U'.heap[a]? = some cell → (Cond.isRef (.static "java/lang/Throwable" n d)).before g U' = true ∧ (Cond.laysStatic "java/lang/Throwable" n d).before g U' = true
theorem SF.moved {n d : String} {A : Nat → Prop} {u U : State} {H : Heap} (hv : u.vm.Alike U.vm) (h : SF n d A u H) : SF n d A U H := by
  obtain ⟨a, cell, h1, h2, h3, h4⟩ := h
  exact ⟨a, cell, h1, h2, h3, fun U' g hv' hc => h4 U' g (hv.trans hv') hc⟩
theorem SF.kept {n d : String} {A : Nat → Prop} {U : State} {H H1 : Heap} (h : SF n d A U H) (hq : ∀ a : Nat, a < H.size → ¬ A a → H1[a]? = H[a]?) : SF n d A U H1 := by
  obtain ⟨a, cell, h1, h2, h3, h4⟩ := h
  exact ⟨a, cell, by rw [hq a (Array.getElem?_eq_some_iff.mp h1).1 h3]; exact h1, h2, h3, h4⟩
theorem SF.narrow {n d : String} {A B : Nat → Prop} {U : State} {H : Heap} (h : SF n d A U H) (hAB : ∀ q, q < H.size → B q → A q) : SF n d B U H := by
  obtain ⟨a, cell, h1, h2, h3, h4⟩ := h
  exact ⟨a, cell, h1, h2, fun z => h3 (hAB a (Array.getElem?_eq_some_iff.mp h1).1 z), h4⟩
theorem SF.of {n d : String} {A : Nat → Prop} {s : State} {g0 : Array Value} (h1 : (Cond.isRef (.static "java/lang/Throwable" n d)).before g0 s = true) (h2 : (Cond.laysStatic "java/lang/Throwable" n d).before g0 s = true) (hA : ∀ a : Nat, a < s.heap.size → ¬ A a) : SF n d A s s.heap := by
  obtain ⟨c, k, i, f, a, cell, hc, hi, hst, ha, hcell, hs, hcls, hlt, hty⟩ := Cond.laysStatic_spec h2
  have hx : ∃ v, cell.slots[f.slot]? = some v ∧ v.isRef = true := by
    obtain ⟨u, hu⟩ := Cond.staticRefV hi hst ha hcell hs h1
    exact ⟨u.v, hu, u.2⟩
  obtain ⟨v, hv, hvr⟩ := hx
  refine ⟨a, cell, hcell, hs, hA a (Array.getElem?_eq_some_iff.mp hcell).1, fun U' g hvm hcell' => ?_⟩
  obtain ⟨k', hi', he⟩ := State.fieldFound?_setVm hvm hi
  have hi2 : U'.fieldFound? "java/lang/Throwable" n d = some (c, k', i, f) := hi'
  have hsta : k'.statics = some a := by rw [he]; exact ha
  refine ⟨?_, ?_⟩
  · have hev : (Term.static "java/lang/Throwable" n d).eval g U' none [] U' = some v := by
      simp [Term.eval, State.fieldNamed?, hi2, hst, hsta, hcell', hs, hv]
    simp only [Cond.before, Cond.holds, Cond.value, hev]
    cases v with
    | null => rfl
    | ref r => rfl
    | _ => exact absurd hvr Bool.false_ne_true
  · exact Cond.laysStatic_of (by rw [hvm.findClass]; exact hc) hi2 hst hsta hcell' hs hcls hlt (by rw [he]; exact hty)
end
section
/-! the fields' words stand in the tables -/
set_option maxRecDepth 100000 in
theorem us_all : ∀ (c : Nat) (q : vw_C), vcl[c]? = some q → ∀ w ∈ u_ws q.1 q.2.1 q.2.2, w ∈ lw_tbl ∧ stb w = true := by
  intro c q h
  match c, h with
  | 0, h => cases h; decide +kernel
  | 1, h => cases h; decide +kernel
  | 2, h => cases h; decide +kernel
  | 3, h => cases h; decide +kernel
  | 4, h => cases h; decide +kernel
  | 5, h => cases h; decide +kernel
  | 6, h => cases h; decide +kernel
  | 7, h => cases h; decide +kernel
  | 8, h => cases h; decide +kernel
  | 9, h => cases h; decide +kernel
  | 10, h => cases h; decide +kernel
  | 11, h => cases h; decide +kernel
  | n + 12, h => simp [vcl] at h
theorem ty_all : ∀ (c : Nat) (q : vw_C), vcl[c]? = some q → ∃ ty : Nat → FieldType, (∀ k, k < q.2.2 → parseFieldDescriptor (q.2.1 k).2.2.1 = some (ty k)) ∧ ∀ a, a < q.2.2 → ∀ b, b < q.2.2 → a ≠ b → (q.2.1 a).2.1 ≠ (q.2.1 b).2.1 := by
  intro c q h
  match c, h with
  | 0, h => cases h; exact ⟨tyC0, tyC0_ok, nmC0⟩
  | 1, h => cases h; exact ⟨tyC1, tyC1_ok, nmC1⟩
  | 2, h => cases h; exact ⟨tyC2, tyC2_ok, nmC2⟩
  | 3, h => cases h; exact ⟨tyC3, tyC3_ok, nmC3⟩
  | 4, h => cases h; exact ⟨tyC4, tyC4_ok, nmC4⟩
  | 5, h => cases h; exact ⟨tyC5, tyC5_ok, nmC5⟩
  | 6, h => cases h; exact ⟨tyC6, tyC6_ok, nmC6⟩
  | 7, h => cases h; exact ⟨tyC7, tyC7_ok, nmC7⟩
  | 8, h => cases h; exact ⟨tyC8, tyC8_ok, nmC8⟩
  | 9, h => cases h; exact ⟨tyC9, tyC9_ok, nmC9⟩
  | 10, h => cases h; exact ⟨tyC10, tyC10_ok, nmC10⟩
  | 11, h => cases h; exact ⟨tyC11, tyC11_ok, nmC11⟩
  | n + 12, h => simp [vcl] at h
end
section
/-! THE LAYER: contracts over the world, and walks over it -/
def wA (ad : Nat → Nat) (sz : Nat) : Nat → Prop := fun q => (∃ k, k < wN ∧ q = ad k) ∨ sz ≤ q
/-- the classes of what is thrown -/
def xNm (n : Nat) : String := if n = 1 then "java/lang/IllegalStateException" else if n = 2 then "java/lang/IndexOutOfBoundsException" else if n = 3 then "java/lang/IllegalArgumentException" else "java/lang/UnsupportedOperationException"
def rc (ρ : Rs) : Nat := match ρ.1 with
  | .inl _ => 0
  | .inr _ => 1
def rsl (ρ : Rs) : Nat := match ρ.1 with
  | .inl _ => 0
  | .inr _ => 6
abbrev wtys (G : GC) : List (ClassId × FieldType) := [(G.1, .int), (G.2.1, .boolean), (G.2.2, .long)]
def Env0 (D : va_G) (G : GC) (ad : Nat → Nat) (U : State) (H : Heap) : Prop :=
  va_K D vcl (wtys G) U ∧ Wds U ∧ SF "UNASSIGNED_STACK" "[Ljava/lang/StackTraceElement;" (wA ad H.size) U H ∧ SF "SUPPRESSED_SENTINEL" "Ljava/util/List;" (wA ad H.size) U H ∧ (∀ q ∈ strL, ∃ a, vk_R q.1 q.2.1 q.2.2 a U) ∧ (∀ i j, i < wN → j < wN → ad i = ad j → i = j)
theorem wA_mono {ad : Nat → Nat} {a b : Nat} (h : a ≤ b) : ∀ q, wA ad b q → wA ad a q := fun _ hq => hq.elim Or.inl fun z => Or.inr (Nat.le_trans h z)
theorem wld_D {G : GC} {ad : Nat → Nat} {σ : Mem} {sz : Nat} (h : ∀ i j, i < wN → j < wN → ad i = ad j → i = j) : va_D (wA ad sz) (wld G ad σ) := by
  refine ⟨fun i j p q hi hj hpq => ?_, fun k q hk => ?_⟩
  · obtain ⟨h1, e1⟩ := wld_of hi
    obtain ⟨h2, e2⟩ := wld_of hj
    subst e1; subst e2
    exact h i j h1 h2 hpq
  · obtain ⟨h1, e1⟩ := wld_of hk
    subst e1
    exact Or.inl ⟨k, h1, rfl⟩
theorem Env0.step {D : va_G} {G : GC} {ad : Nat → Nat} {s U : State} {H0 H : Heap} {locs : List Loc} (h : Env0 D G ad s H0) (hW : s.WarmedH U.vm) (hS : va_S (wA ad H0.size) H0 H locs) : Env0 D G ad U H := by
  obtain ⟨h1, h2, h3, h4, h5, h6⟩ := h
  refine ⟨va_K.moved hW.alike h1, h2.warm hW, ?_, ?_, fun q hq => ?_, h6⟩
  · exact ((h3.moved hW.alike).kept hS.2.1).narrow (fun q _ hq => wA_mono hS.1 q hq)
  · exact ((h4.moved hW.alike).kept hS.2.1).narrow (fun q _ hq => wA_mono hS.1 q hq)
  · obtain ⟨a, ha⟩ := h5 q hq
    exact ⟨a, ha.warm hW⟩
theorem Env0.same {D : va_G} {G : GC} {ad : Nat → Nat} {s U : State} {H : Heap} (h : Env0 D G ad s H) (hv : s.vm = U.vm) : Env0 D G ad U H := by
  obtain ⟨h1, h2, h3, h4, h5, h6⟩ := h
  have ha : s.vm.Alike U.vm := by rw [hv]; exact Vm.Alike.refl _
  refine ⟨va_K.moved ha h1, h2.same hv, h3.moved ha, h4.moved ha, fun q hq => ?_, h6⟩
  obtain ⟨a, h⟩ := h5 q hq
  exact ⟨a, vk_R.same hv.symm h⟩
/-- how a method ended, and what the world is then -/
def Out (D : va_G) (G : GC) (ad : Nat → Nat) (ρ : Rs) (st : State) (o : Outcome) (t : State) : Prop :=
  (match ρ.1 with
    | .inl v => o = .returned v
    | .inr n => ∃ (q : Addr) (ce : Cell), o = .threw q ∧ t.heap[q]? = some ce ∧ ce.vm = .none ∧ st.vm.findClass (xNm n) = some ce.cls) ∧
  va_P D vcl (wld G ad ρ.2) t.heap ∧ va_F (wA ad st.heap.size) st t
def FE (st t : State) (L : List Loc) (k n : Nat) : Prop := st.WarmedH t.vm ∧ st.sameButNew ({ t with vm := st.vm } : State) L k n
def rmOf (fr lo : Nat) (ρ : Rs) : Room := { frames := fr, cells := rc ρ, slots := rsl ρ, locals := lo }
/-- A METHOD'S CONTRACT: called with av in a world σ it ends as ρ says -/
def Ctr (l : Launch) (D : va_G) (G : GC) (ad : Nat → Nat) (y : MethodName) (bytes : ByteArray) (mL : Nat) (ret : Option FieldType) (fr lo : Nat) (av : List Value) (σ : Mem) (ρ : Rs) : Prop :=
  ∀ sz : Nat, l.stackTraces = false → MetFree l y (headSpec [.code y bytes mL ret] (rmOf fr lo ρ)) (fun a U => a = av.toArray ∧ U.heap.size = sz ∧ va_P D vcl (wld G ad σ) U.heap ∧ Env0 D G ad U U.heap) (fun _ _ _ _ _ => True)
    (fun _ st o t => Out D G ad ρ st o t ∧ ∃ L, FE st t L (rc ρ) (rsl ρ) ∧ ∀ q ∈ L, wA ad sz q.base)
def QF (below : List Frame) (D : va_G) (G : GC) (ad : Nat → Nat) (ρ : Rs) (s : State) : State → Prop := fun t =>
  ∃ o, t.status = .running ∧ Ended t below o ∧ Out D G ad ρ s o t ∧ ∃ L, FE s t L (rc ρ) (rsl ρ) ∧ ∀ q ∈ L, wA ad s.heap.size q.base
/-- what stays the same in one walk: p l e R s m args below meth c, D G ad, ρ -/
abbrev Fx : Type := (Program × Launch × Env × Room × State) × (MethodId × Array Value × List Frame × Method × Code) × (va_G × GC × (Nat → Nat) × Rs)
def V (F : Fx) (nL : Nat) (σ : Mem) (pc : Nat) (lv : List (Nat × Value)) (st : List Value) : Prop :=
  ∀ (H : Heap) (locs : List Loc) (ls : Array Slot), va_P F.2.2.1 vcl (wld F.2.2.2.1 F.2.2.2.2.1 σ) H → va_S (wA F.2.2.2.2.1 F.1.2.2.2.2.heap.size) F.1.2.2.2.2.heap H locs → lv_has ls nL lv →
    W F.1.1 F.1.2.1 F.1.2.2.1 F.1.2.2.2.1 F.1.2.2.2.2 F.2.1.1 F.2.1.2.1 F.2.1.2.2.1 F.2.1.2.2.2.1 F.2.1.2.2.2.2 H locs 0 0 (QF F.2.1.2.2.1 F.2.2.1 F.2.2.2.1 F.2.2.2.2.1 F.2.2.2.2.2 F.1.2.2.2.2) (F0 F.2.1.1 pc ls st)
/-- from here the walk ends as E says -/
def J {β : Type} (F : Fx) (nL : Nat) (cv : β → Option Rs) (E : β) (σ : Mem) (pc : Nat) (lv : List (Nat × Value)) (st : List Value) : Prop := cv E = some F.2.2.2.2.2 → V F nL σ pc lv st
abbrev fad (F : Fx) : Nat → Nat := F.2.2.2.2.1
/-- what a walk knows -/
def Ctx (F : Fx) (cc : ByteArray) (nL : Nat) (own : String) (ret : Option FieldType) (fr lo : Nat) : Prop :=
  F.1.1.tables.exec = Jvm.exec ∧ F.2.1.2.2.2.2.code = cc ∧ F.2.1.2.2.2.2.maxLocals = nL ∧ F.1.2.2.2.2.vm.findClass own = some F.2.1.1.cls ∧ F.2.1.2.2.2.1.sig.returnType = ret ∧ F.2.1.2.2.2.1.locks = false ∧
  (∀ x ∈ F.2.1.2.2.2.2.exceptionTable.toList, False) ∧ F.1.2.2.2.1 = rmOf fr lo F.2.2.2.2.2 ∧ Env0 F.2.2.1 F.2.2.2.1 F.2.2.2.2.1 F.1.2.2.2.2 F.1.2.2.2.2.heap ∧ F.1.2.1.stackTraces = false ∧ ∃ σ0, va_P F.2.2.1 vcl (wld F.2.2.2.1 F.2.2.2.2.1 σ0) F.1.2.2.2.2.heap
end
section
/-! A CALL by a contract, whichever way it ends -/
section CT
variable {p : Program} {l : Launch} {e : Env} {R : Room} {s : State} {m : MethodId} {args : Array Value} {below : List Frame} {meth : Method} {c : Code} {U : State} {locs : List Loc} {cells slots : Nat}
variable {D : va_G} {G : GC} {ad : Nat → Nat} {y : MethodName} {bytes : ByteArray} {mL fr lo : Nat} {ret : Option FieldType} {av : List Value} {σ : Mem} {ρ : Rs} {g : JFrame} {ig : Instr} {mk : MethodId}
theorem ct_go (X : Stand p l e R s m args below meth c U locs cells slots) (hg : g.method = m) (hsize : g.locals.size = c.maxLocals) (hd : decode c.code g.pc = .ok (ig, 3)) (hW : 2 * g.monitorRoom + (g.stack.map fun v => v.category).sum ≤ 8) (hn : U.methodNamed? y = some mk)
    (hct : Ctr l D G ad y bytes mL ret fr lo av σ ρ) (hcode : (Cond.code y bytes mL ret).before av.toArray U = true) (hini : (Cond.initialized y.cls).before av.toArray U = true) (hfr : fr + 1 ≤ R.frames) (hlo : 8 + (mL + 11) + lo ≤ R.locals) (hrc : cells + rc ρ ≤ R.cells) (hrs : slots + rsl ρ ≤ R.slots)
    (hP : va_P D vcl (wld G ad σ) U.heap) (hE : Env0 D G ad U U.heap) (hnt : l.stackTraces = false) :
    ∃ (o : Outcome) (T' : State) (L : List Loc), Stand p l e R s m args below meth c T' (locs ++ L) (cells + rc ρ) (slots + rsl ρ) ∧ (∀ q ∈ L, wA ad U.heap.size q.base) ∧ Out D G ad ρ U o T' ∧
      (∀ v, o = .returned v → Steps p.tables e below (doInvoke e (U.setTop g) [] mk av.toArray).1 (T'.setTop { g with pc := g.pc + 3, stack := v.toList ++ g.stack })) ∧
      (∀ q, o = .threw q → Steps p.tables e below (doInvoke e (U.setTop g) [] mk av.toArray).1 ((T'.setTop g).pushFrame (.throwing q))) := by
  obtain ⟨methY, cY, hmY, hcY, -, hlY, -, -, -, -⟩ := Cond.code_spec hn hcode
  obtain ⟨kY, hkY, -⟩ := className_of_methodNamed hn
  have hinitY : kY.init = .initialized := Cond.initialized_spec (findClass_of_methodNamed hn) hkY hini
  have hAt : At U g.method c below := by rw [hg]; exact X.here
  have hroom : (U.calling g mk av.toArray).hasRoom e.platform (rmOf fr lo ρ) = true := X.room_calling (g := g) (R' := rmOf fr lo ρ) hsize hmY hcY hfr (by rw [hlY]; show _ + _ + (mL + 11) + lo ≤ _; omega) hrc hrs
  have happ : (headSpec [.code y bytes mL ret] (rmOf fr lo ρ)).appliesLoose y e.platform (U.calling g mk av.toArray) = true :=
    Spec.appliesLoose_calling (g := g) hAt hd hn hkY hinitY hroom (atoms_intro fun w hw => by rw [List.mem_singleton.mp hw]; exact hcode)
  obtain ⟨mid, hmid⟩ := hAt.above
  have hfr2 : (U.setTop g).frames = (.java g :: mid) ++ below := by rw [State.frames_setTop' g hAt.top, hmid]; rfl
  obtain ⟨o, t, hst, -, hend, hq⟩ := Steps.callFree (hct U.heap.size hnt) p X.admits X.cas X.clock (acts := []) hfr2 happ ⟨rfl, rfl, hP, hE.same rfl⟩ trivial
  rw [State.frames_setTop' g hAt.top] at hend
  obtain ⟨hout, L, ⟨hWm, hsm⟩, hL⟩ := hq
  have hW' : U.WarmedH t.vm := hWm
  have hsm : (U.calling g mk av.toArray).sameButNew ({ t with vm := (U.calling g mk av.toArray).vm } : State) L (rc ρ) (rsl ρ) := hsm
  obtain ⟨e2, q2, q3, q4, q5, q6⟩ := hsm
  obtain ⟨g₀, hg0⟩ := Option.isSome_iff_exists.mp hAt.top
  obtain ⟨r, hr⟩ := State.topJava?_eq_some.mp hg0
  obtain ⟨T', hT'⟩ : ∃ z, z = ({ U with heap := t.heap, slotsUsed := t.slotsUsed } : State).setVm t.vm := ⟨_, rfl⟩
  have hr' : T'.frames = .java g₀ :: r := by rw [hT']; exact hr
  have e3 : t = ({ (U.calling g mk av.toArray).setFrames t.frames with heap := t.heap, slotsUsed := t.slotsUsed } : State).setVm t.vm := by
    have : t = ({ t with vm := (U.calling g mk av.toArray).vm } : State).setVm t.vm := rfl
    rw [e2] at this
    exact this
  have hsame : U.sameButNew ({ U with heap := t.heap, slotsUsed := t.slotsUsed } : State) L (rc ρ) (rsl ρ) := by
    refine ⟨?_, q2, q3, q4, q5, q6⟩
    obtain ⟨z, hz, -⟩ := State.frames_cons hr
    show ({ U with heap := t.heap, slotsUsed := t.slotsUsed } : State) = { U.setFrames U.frames with heap := t.heap, slotsUsed := t.slotsUsed }
    rw [State.setFrames_self hz]
  have X' : Stand p l e R s m args below meth c T' (locs ++ L) (cells + rc ρ) (slots + rsl ρ) := by
    rw [hT']
    exact ⟨X.admits, X.cas, X.clock, X.frames, X.room, X.hears, X.method, X.code, (X.here.setHeapUsed t.heap t.slotsUsed).setVm hW'.alike, X.tail, State.WarmedH.trans X.warmed hW', X.limits, X.bytes, X.same.trans (hsame.setVm s.vm)⟩
  have hhp : T'.heap = t.heap := by rw [hT']; rfl
  refine ⟨o, T', L, X', hL, ?_, ?_, ?_⟩
  · obtain ⟨h1, h2, h3⟩ := hout
    refine ⟨?_, by rw [hhp]; exact h2, ?_⟩
    · cases hρ : ρ.1 with
      | inl v => rw [hρ] at h1; exact h1
      | inr n =>
        rw [hρ] at h1
        obtain ⟨q, ce, r1, r2, r3, r4⟩ := h1
        exact ⟨q, ce, r1, by rw [hhp]; exact r2, r3, r4⟩
    · obtain ⟨z1, z2⟩ := h3
      exact ⟨by rw [hhp]; exact z1, fun q a b => by rw [hhp]; exact z2 q a b⟩
  · intro v ho
    subst ho
    obtain ⟨c₂, i₂, len₂, hc₂, hd₂, hf₂⟩ := hend
    have hcc : c₂ = c := by
      have h1 : t.code? g.method = U.code? g.method := by rw [State.code?_eq, State.code?_eq, hW'.alike.method?]
      exact Option.some.inj (hc₂.symm.trans (h1.trans hAt.code))
    subst hcc
    have hlen : len₂ = 3 := by rw [hd] at hd₂; cases hd₂; rfl
    subst hlen
    have ht : t = T'.setTop { g with pc := g.pc + 3, stack := v.toList ++ g.stack } := by
      refine e3.trans ?_
      rw [hf₂, State.calling_eq hAt.top, State.setFrames_setFrames, State.setTop_of_frames _ hr', hT', hr]
      rfl
    rw [← ht]
    exact hst
  · intro q ho
    subst ho
    have hf₂ : t.frames = .throwing q :: .java g :: U.frames.tail := hend
    have ht : t = (T'.setTop g).pushFrame (.throwing q) := by
      refine e3.trans ?_
      rw [hf₂, State.calling_eq hAt.top, State.setFrames_setFrames, State.pushFrame, State.frames_setTop _ hr', State.setTop_of_frames _ hr', State.setFrames_setFrames, hT', hr]
      rfl
    rw [← ht]
    exact hst
end CT
end
section
/-! ROWS: one for each instruction -/
section JR
variable {β : Type} {F : Fx} {nL : Nat} {cv : β → Option Rs} {E A B : β} {σ : Mem} {pc : Nat} {lv lv9 : List (Nat × Value)} {st : List Value} {cc : ByteArray} {own : String} {ret : Option FieldType} {fr lo : Nat} {x y v : Int32}
theorem j_iconst (C : Ctx F cc nL own ret fr lo) {n : Int} (d : decode cc pc = .ok (.iconst n, 1)) (hv : Int32.ofInt n = v) (K : J F nL cv E σ (pc + 1) lv (.int v :: st)) : J F nL cv E σ pc lv st := fun hE H locs ls hP hS hl => lv_iconst C.1 C.2.1 d hv (K hE H locs ls hP hS hl)
theorem j_bipush (C : Ctx F cc nL own ret fr lo) {n : Int} (d : decode cc pc = .ok (.bipush n, 2)) (hv : (Int8.ofInt n).toInt32 = v) (K : J F nL cv E σ (pc + 2) lv (.int v :: st)) : J F nL cv E σ pc lv st := fun hE H locs ls hP hS hl => lv_bipush C.1 C.2.1 d hv (K hE H locs ls hP hS hl)
theorem j_sipush (C : Ctx F cc nL own ret fr lo) {n : Int} (d : decode cc pc = .ok (.sipush n, 3)) (hv : (Int16.ofInt n).toInt32 = v) (K : J F nL cv E σ (pc + 3) lv (.int v :: st)) : J F nL cv E σ pc lv st := fun hE H locs ls hP hS hl => lv_sipush C.1 C.2.1 d hv (K hE H locs ls hP hS hl)
theorem j_iload_n (C : Ctx F cc nL own ret fr lo) {i : Fin 4} (d : decode cc pc = .ok (.iload_n i, 1)) (q : Nat) (hq : lv[q]? = some ((i : Nat), .int x)) (K : J F nL cv E σ (pc + 1) lv (.int x :: st)) : J F nL cv E σ pc lv st := fun hE H locs ls hP hS hl => lv_iload_n C.1 C.2.1 d rfl (lv_at hl q hq) (K hE H locs ls hP hS hl)
theorem j_iload (C : Ctx F cc nL own ret fr lo) {i : Nat} (d : decode cc pc = .ok (.iload i, 2)) (q : Nat) (hq : lv[q]? = some (i, .int x)) (K : J F nL cv E σ (pc + 2) lv (.int x :: st)) : J F nL cv E σ pc lv st := fun hE H locs ls hP hS hl => lv_iload C.1 C.2.1 d (lv_at hl q hq) (K hE H locs ls hP hS hl)
theorem j_aload_n (C : Ctx F cc nL own ret fr lo) {i : Fin 4} {a : Nat} (d : decode cc pc = .ok (.aload_n i, 1)) (q : Nat) (hq : lv[q]? = some ((i : Nat), .ref a)) (K : J F nL cv E σ (pc + 1) lv (.ref a :: st)) : J F nL cv E σ pc lv st := fun hE H locs ls hP hS hl => lv_aload_n C.1 C.2.1 d rfl (lv_at hl q hq) (K hE H locs ls hP hS hl)
theorem j_aload (C : Ctx F cc nL own ret fr lo) {i : Nat} {a : Nat} (d : decode cc pc = .ok (.aload i, 2)) (q : Nat) (hq : lv[q]? = some (i, .ref a)) (K : J F nL cv E σ (pc + 2) lv (.ref a :: st)) : J F nL cv E σ pc lv st := fun hE H locs ls hP hS hl => lv_aload C.1 C.2.1 d (lv_at hl q hq) (K hE H locs ls hP hS hl)
theorem lv_re {ls : Array Slot} {nL : Nat} {l l2 : List (Nat × Value)} (h : lv_has ls nL l) (hs : ∀ q ∈ l2, q ∈ l) : lv_has ls nL l2 := ⟨h.1, h.2.1, fun q hq => h.2.2 q (hs q hq)⟩
def lvq (i : Nat) (v : Value) (l : List (Nat × Value)) : List (Nat × Value) := l.takeWhile (fun q => decide (q.1 < i)) ++ (i, v) :: (l.dropWhile (fun q => decide (q.1 < i))).dropWhile (fun q => q.1 == i)
def lvk (i : Nat) (l : List (Nat × Value)) : Bool := ((l.dropWhile (fun q => decide (q.1 < i))).dropWhile (fun q => q.1 == i)).all (fun q => q.1 != i) && l.all (fun q => !(q.1 + 1 == i && q.2.category == 2))
theorem lvs_sub {i : Nat} {v : Value} {l l2 : List (Nat × Value)} (h : lvq i v l = l2) (hk : lvk i l = true) : ∀ q ∈ l2, q ∈ (i, v) :: l.filter (fun q => !(q.1 == i) && !(q.1 + 1 == i && q.2.category == 2)) := by
  intro q hq
  simp only [lvk, Bool.and_eq_true] at hk
  have fin : q ∈ l → q.1 ≠ i → q ∈ (i, v) :: l.filter (fun q => !(q.1 == i) && !(q.1 + 1 == i && q.2.category == 2)) := fun hm hi => by
    refine List.mem_cons_of_mem _ (List.mem_filter.mpr ⟨hm, ?_⟩)
    have h2 := List.all_eq_true.mp hk.2 q hm
    simp only [Bool.and_eq_true]
    exact ⟨by simpa using hi, h2⟩
  rw [← h, lvq] at hq
  rcases List.mem_append.mp hq with h1 | h1
  · have h3 : ∀ (l : List (Nat × Value)) (q : Nat × Value), q ∈ l.takeWhile (fun q => decide (q.1 < i)) → q.1 < i := by
      intro l
      induction l with
      | nil => intro q h; cases h
      | cons a l ih =>
        intro q h
        rw [List.takeWhile_cons] at h
        split at h
        · rename_i ha
          rcases List.mem_cons.mp h with e | e
          · rw [e]; simpa using ha
          · exact ih q e
        · cases h
    exact fin ((List.takeWhile_sublist _).subset h1) (Nat.ne_of_lt (h3 l q h1))
  · rcases List.mem_cons.mp h1 with h1 | h1
    · rw [h1]; exact List.mem_cons_self
    · exact fin ((List.dropWhile_sublist _).subset ((List.dropWhile_sublist _).subset h1)) (by simpa using List.all_eq_true.mp hk.1 q h1)
theorem j_istore_n (C : Ctx F cc nL own ret fr lo) {i : Fin 4} (d : decode cc pc = .ok (.istore_n i, 1)) (hs : lvq (i : Nat) (.int x) lv = lv9) (hu : lvk (i : Nat) lv = true) (hi : (i : Nat) < nL) (K : J F nL cv E σ (pc + 1) lv9 st) : J F nL cv E σ pc lv (.int x :: st) := fun hE H locs ls hP hS hl => lv_istore_n C.1 C.2.1 d rfl hl hi rfl (fun ls2 hl2 => K hE H locs ls2 hP hS (lv_re hl2 (lvs_sub hs hu)))
theorem j_istore (C : Ctx F cc nL own ret fr lo) {i : Nat} (d : decode cc pc = .ok (.istore i, 2)) (hs : lvq i (.int x) lv = lv9) (hu : lvk i lv = true) (hi : i < nL) (K : J F nL cv E σ (pc + 2) lv9 st) : J F nL cv E σ pc lv (.int x :: st) := fun hE H locs ls hP hS hl => lv_istore C.1 C.2.1 d hl hi rfl (fun ls2 hl2 => K hE H locs ls2 hP hS (lv_re hl2 (lvs_sub hs hu)))
theorem j_astore_n (C : Ctx F cc nL own ret fr lo) {i : Fin 4} {a : Nat} (d : decode cc pc = .ok (.astore_n i, 1)) (hs : lvq (i : Nat) (.ref a) lv = lv9) (hu : lvk (i : Nat) lv = true) (hi : (i : Nat) < nL) (K : J F nL cv E σ (pc + 1) lv9 st) : J F nL cv E σ pc lv (.ref a :: st) := fun hE H locs ls hP hS hl => lv_astore_n C.1 C.2.1 d rfl hl hi rfl (fun ls2 hl2 => K hE H locs ls2 hP hS (lv_re hl2 (lvs_sub hs hu)))
theorem j_astore (C : Ctx F cc nL own ret fr lo) {i : Nat} {a : Nat} (d : decode cc pc = .ok (.astore i, 2)) (hs : lvq i (.ref a) lv = lv9) (hu : lvk i lv = true) (hi : i < nL) (K : J F nL cv E σ (pc + 2) lv9 st) : J F nL cv E σ pc lv (.ref a :: st) := fun hE H locs ls hP hS hl => lv_astore C.1 C.2.1 d hl hi rfl (fun ls2 hl2 => K hE H locs ls2 hP hS (lv_re hl2 (lvs_sub hs hu)))
theorem j_iinc (C : Ctx F cc nL own ret fr lo) {i : Nat} {n : Int} (d : decode cc pc = .ok (.iinc i n, 3)) (q : Nat) (hq : lv[q]? = some (i, .int x)) (hv : x + Int32.ofInt n = v) (hs : lvq i (.int v) lv = lv9) (hu : lvk i lv = true) (hi : i < nL) (K : J F nL cv E σ (pc + 3) lv9 st) : J F nL cv E σ pc lv st := fun hE H locs ls hP hS hl => lv_iinc C.1 C.2.1 d hl hq hv hi rfl (fun ls2 hl2 => K hE H locs ls2 hP hS (lv_re hl2 (lvs_sub hs hu)))
theorem j_iadd (C : Ctx F cc nL own ret fr lo) (d : decode cc pc = .ok (.iadd, 1)) (K : J F nL cv E σ (pc + 1) lv (.int (x + y) :: st)) : J F nL cv E σ pc lv (.int y :: .int x :: st) := fun hE H locs ls hP hS hl => lv_iadd C.1 C.2.1 d (K hE H locs ls hP hS hl)
theorem j_isub (C : Ctx F cc nL own ret fr lo) (d : decode cc pc = .ok (.isub, 1)) (K : J F nL cv E σ (pc + 1) lv (.int (x - y) :: st)) : J F nL cv E σ pc lv (.int y :: .int x :: st) := fun hE H locs ls hP hS hl => lv_isub C.1 C.2.1 d (K hE H locs ls hP hS hl)
theorem j_imul (C : Ctx F cc nL own ret fr lo) (d : decode cc pc = .ok (.imul, 1)) (K : J F nL cv E σ (pc + 1) lv (.int (x * y) :: st)) : J F nL cv E σ pc lv (.int y :: .int x :: st) := fun hE H locs ls hP hS hl => lv_imul C.1 C.2.1 d (K hE H locs ls hP hS hl)
theorem j_iand (C : Ctx F cc nL own ret fr lo) (d : decode cc pc = .ok (.iand, 1)) (K : J F nL cv E σ (pc + 1) lv (.int (x &&& y) :: st)) : J F nL cv E σ pc lv (.int y :: .int x :: st) := fun hE H locs ls hP hS hl => lv_iand C.1 C.2.1 d (K hE H locs ls hP hS hl)
theorem j_ior (C : Ctx F cc nL own ret fr lo) (d : decode cc pc = .ok (.ior, 1)) (K : J F nL cv E σ (pc + 1) lv (.int (x ||| y) :: st)) : J F nL cv E σ pc lv (.int y :: .int x :: st) := fun hE H locs ls hP hS hl => lv_ior C.1 C.2.1 d (K hE H locs ls hP hS hl)
theorem j_ixor (C : Ctx F cc nL own ret fr lo) (d : decode cc pc = .ok (.ixor, 1)) (K : J F nL cv E σ (pc + 1) lv (.int (x ^^^ y) :: st)) : J F nL cv E σ pc lv (.int y :: .int x :: st) := fun hE H locs ls hP hS hl => lv_ixor C.1 C.2.1 d (K hE H locs ls hP hS hl)
theorem j_ishl (C : Ctx F cc nL own ret fr lo) (d : decode cc pc = .ok (.ishl, 1)) (K : J F nL cv E σ (pc + 1) lv (.int (x <<< (y &&& 31)) :: st)) : J F nL cv E σ pc lv (.int y :: .int x :: st) := fun hE H locs ls hP hS hl => lv_ishl C.1 C.2.1 d (K hE H locs ls hP hS hl)
theorem j_ishr (C : Ctx F cc nL own ret fr lo) (d : decode cc pc = .ok (.ishr, 1)) (K : J F nL cv E σ (pc + 1) lv (.int (x >>> (y &&& 31)) :: st)) : J F nL cv E σ pc lv (.int y :: .int x :: st) := fun hE H locs ls hP hS hl => lv_ishr C.1 C.2.1 d (K hE H locs ls hP hS hl)
theorem j_idiv (C : Ctx F cc nL own ret fr lo) (d : decode cc pc = .ok (.idiv, 1)) (hne : ¬ y = 0) (K : J F nL cv E σ (pc + 1) lv (.int (x / y) :: st)) : J F nL cv E σ pc lv (.int y :: .int x :: st) := fun hE H locs ls hP hS hl => lv_idiv C.1 C.2.1 d hne (K hE H locs ls hP hS hl)
theorem j_irem (C : Ctx F cc nL own ret fr lo) (d : decode cc pc = .ok (.irem, 1)) (hne : ¬ y = 0) (K : J F nL cv E σ (pc + 1) lv (.int (x - x / y * y) :: st)) : J F nL cv E σ pc lv (.int y :: .int x :: st) := fun hE H locs ls hP hS hl => lv_irem C.1 C.2.1 d hne (K hE H locs ls hP hS hl)
theorem j_ineg (C : Ctx F cc nL own ret fr lo) (d : decode cc pc = .ok (.ineg, 1)) (K : J F nL cv E σ (pc + 1) lv (.int (-x) :: st)) : J F nL cv E σ pc lv (.int x :: st) := fun hE H locs ls hP hS hl => lv_ineg C.1 C.2.1 d (K hE H locs ls hP hS hl)
theorem j_dup (C : Ctx F cc nL own ret fr lo) {z : Value} (d : decode cc pc = .ok (.dup, 1)) (hz : z.category = 1) (K : J F nL cv E σ (pc + 1) lv (z :: z :: st)) : J F nL cv E σ pc lv (z :: st) := fun hE H locs ls hP hS hl => lv_dup C.1 C.2.1 d hz (K hE H locs ls hP hS hl)
theorem j_pop (C : Ctx F cc nL own ret fr lo) {z : Value} (d : decode cc pc = .ok (.pop, 1)) (hz : z.category = 1) (K : J F nL cv E σ (pc + 1) lv st) : J F nL cv E σ pc lv (z :: st) := fun hE H locs ls hP hS hl => lv_pop C.1 C.2.1 d hz (K hE H locs ls hP hS hl)
theorem j_dup2 (C : Ctx F cc nL own ret fr lo) {z z2 : Value} (d : decode cc pc = .ok (.dup2, 1)) (hz : z.category = 1) (hz2 : z2.category = 1) (K : J F nL cv E σ (pc + 1) lv (z :: z2 :: z :: z2 :: st)) : J F nL cv E σ pc lv (z :: z2 :: st) := fun hE H locs ls hP hS hl => lv_dup2_11 C.1 C.2.1 d hz hz2 (K hE H locs ls hP hS hl)
theorem j_dup_x1 (C : Ctx F cc nL own ret fr lo) {z z2 : Value} (d : decode cc pc = .ok (.dup_x1, 1)) (hz : z.category = 1) (hz2 : z2.category = 1) (K : J F nL cv E σ (pc + 1) lv (z :: z2 :: z :: st)) : J F nL cv E σ pc lv (z :: z2 :: st) := fun hE H locs ls hP hS hl => lv_dup_x1 C.1 C.2.1 d hz hz2 (K hE H locs ls hP hS hl)
theorem j_goto (C : Ctx F cc nL own ret fr lo) {off : Int} {tgt : Nat} (d : decode cc pc = .ok (.goto off, 3)) (ht : (pc : Int) + off = (tgt : Int)) (K : J F nL cv E σ tgt lv st) : J F nL cv E σ pc lv st := fun hE H locs ls hP hS hl => lv_goto C.1 C.2.1 d ht (K hE H locs ls hP hS hl)
theorem j_if_eq (C : Ctx F cc nL own ret fr lo) {off : Int} {tgt : Nat} (d : decode cc pc = .ok (.ifCond .eq off, 3)) (ht : (pc : Int) + off = (tgt : Int)) (k1 : x = 0 → J F nL cv A σ tgt lv st) (k2 : ¬ x = 0 → J F nL cv B σ (pc + 3) lv st) : J F nL cv (if x = 0 then A else B) σ pc lv (.int x :: st) := fun hE H locs ls hP hS hl => lv_if_eq C.1 C.2.1 d ht (fun c => k1 c (by rw [if_pos c] at hE; exact hE) H locs ls hP hS hl) (fun c => k2 c (by rw [if_neg c] at hE; exact hE) H locs ls hP hS hl)
theorem d_if_eq (C : Ctx F cc nL own ret fr lo) {off : Int} {tgt jp : Nat} {a b : Int32} (d : decode cc pc = .ok (.ifCond .eq off, 3)) (ht : (pc : Int) + off = (tgt : Int)) (k1 : x = 0 → J F nL cv E σ jp lv (.int a :: st) → J F nL cv E σ tgt lv st) (k2 : ¬ x = 0 → J F nL cv E σ jp lv (.int b :: st) → J F nL cv E σ (pc + 3) lv st) (K : J F nL cv E σ jp lv (.int (if x = 0 then a else b) :: st)) : J F nL cv E σ pc lv (.int x :: st) := fun hE H locs ls hP hS hl => lv_if_eq C.1 C.2.1 d ht (fun c => k1 c (by rw [if_pos c] at K; exact K) hE H locs ls hP hS hl) (fun c => k2 c (by rw [if_neg c] at K; exact K) hE H locs ls hP hS hl)
theorem j_icmp_eq (C : Ctx F cc nL own ret fr lo) {off : Int} {tgt : Nat} (d : decode cc pc = .ok (.if_icmp .eq off, 3)) (ht : (pc : Int) + off = (tgt : Int)) (k1 : x = y → J F nL cv A σ tgt lv st) (k2 : ¬ x = y → J F nL cv B σ (pc + 3) lv st) : J F nL cv (if x = y then A else B) σ pc lv (.int y :: .int x :: st) := fun hE H locs ls hP hS hl => lv_icmp_eq C.1 C.2.1 d ht (fun c => k1 c (by rw [if_pos c] at hE; exact hE) H locs ls hP hS hl) (fun c => k2 c (by rw [if_neg c] at hE; exact hE) H locs ls hP hS hl)
theorem d_icmp_eq (C : Ctx F cc nL own ret fr lo) {off : Int} {tgt jp : Nat} {a b : Int32} (d : decode cc pc = .ok (.if_icmp .eq off, 3)) (ht : (pc : Int) + off = (tgt : Int)) (k1 : x = y → J F nL cv E σ jp lv (.int a :: st) → J F nL cv E σ tgt lv st) (k2 : ¬ x = y → J F nL cv E σ jp lv (.int b :: st) → J F nL cv E σ (pc + 3) lv st) (K : J F nL cv E σ jp lv (.int (if x = y then a else b) :: st)) : J F nL cv E σ pc lv (.int y :: .int x :: st) := fun hE H locs ls hP hS hl => lv_icmp_eq C.1 C.2.1 d ht (fun c => k1 c (by rw [if_pos c] at K; exact K) hE H locs ls hP hS hl) (fun c => k2 c (by rw [if_neg c] at K; exact K) hE H locs ls hP hS hl)
theorem j_if_ne (C : Ctx F cc nL own ret fr lo) {off : Int} {tgt : Nat} (d : decode cc pc = .ok (.ifCond .ne off, 3)) (ht : (pc : Int) + off = (tgt : Int)) (k1 : ¬ x = 0 → J F nL cv B σ tgt lv st) (k2 : x = 0 → J F nL cv A σ (pc + 3) lv st) : J F nL cv (if x = 0 then A else B) σ pc lv (.int x :: st) := fun hE H locs ls hP hS hl => lv_if_ne C.1 C.2.1 d ht (fun c => k1 c (by rw [if_neg c] at hE; exact hE) H locs ls hP hS hl) (fun c => k2 c (by rw [if_pos c] at hE; exact hE) H locs ls hP hS hl)
theorem d_if_ne (C : Ctx F cc nL own ret fr lo) {off : Int} {tgt jp : Nat} {a b : Int32} (d : decode cc pc = .ok (.ifCond .ne off, 3)) (ht : (pc : Int) + off = (tgt : Int)) (k1 : ¬ x = 0 → J F nL cv E σ jp lv (.int b :: st) → J F nL cv E σ tgt lv st) (k2 : x = 0 → J F nL cv E σ jp lv (.int a :: st) → J F nL cv E σ (pc + 3) lv st) (K : J F nL cv E σ jp lv (.int (if x = 0 then a else b) :: st)) : J F nL cv E σ pc lv (.int x :: st) := fun hE H locs ls hP hS hl => lv_if_ne C.1 C.2.1 d ht (fun c => k1 c (by rw [if_neg c] at K; exact K) hE H locs ls hP hS hl) (fun c => k2 c (by rw [if_pos c] at K; exact K) hE H locs ls hP hS hl)
theorem j_icmp_ne (C : Ctx F cc nL own ret fr lo) {off : Int} {tgt : Nat} (d : decode cc pc = .ok (.if_icmp .ne off, 3)) (ht : (pc : Int) + off = (tgt : Int)) (k1 : ¬ x = y → J F nL cv B σ tgt lv st) (k2 : x = y → J F nL cv A σ (pc + 3) lv st) : J F nL cv (if x = y then A else B) σ pc lv (.int y :: .int x :: st) := fun hE H locs ls hP hS hl => lv_icmp_ne C.1 C.2.1 d ht (fun c => k1 c (by rw [if_neg c] at hE; exact hE) H locs ls hP hS hl) (fun c => k2 c (by rw [if_pos c] at hE; exact hE) H locs ls hP hS hl)
theorem d_icmp_ne (C : Ctx F cc nL own ret fr lo) {off : Int} {tgt jp : Nat} {a b : Int32} (d : decode cc pc = .ok (.if_icmp .ne off, 3)) (ht : (pc : Int) + off = (tgt : Int)) (k1 : ¬ x = y → J F nL cv E σ jp lv (.int b :: st) → J F nL cv E σ tgt lv st) (k2 : x = y → J F nL cv E σ jp lv (.int a :: st) → J F nL cv E σ (pc + 3) lv st) (K : J F nL cv E σ jp lv (.int (if x = y then a else b) :: st)) : J F nL cv E σ pc lv (.int y :: .int x :: st) := fun hE H locs ls hP hS hl => lv_icmp_ne C.1 C.2.1 d ht (fun c => k1 c (by rw [if_neg c] at K; exact K) hE H locs ls hP hS hl) (fun c => k2 c (by rw [if_pos c] at K; exact K) hE H locs ls hP hS hl)
theorem j_if_lt (C : Ctx F cc nL own ret fr lo) {off : Int} {tgt : Nat} (d : decode cc pc = .ok (.ifCond .lt off, 3)) (ht : (pc : Int) + off = (tgt : Int)) (k1 : x < 0 → J F nL cv A σ tgt lv st) (k2 : ¬ x < 0 → J F nL cv B σ (pc + 3) lv st) : J F nL cv (if x < 0 then A else B) σ pc lv (.int x :: st) := fun hE H locs ls hP hS hl => lv_if_lt C.1 C.2.1 d ht (fun c => k1 c (by rw [if_pos c] at hE; exact hE) H locs ls hP hS hl) (fun c => k2 c (by rw [if_neg c] at hE; exact hE) H locs ls hP hS hl)
theorem d_if_lt (C : Ctx F cc nL own ret fr lo) {off : Int} {tgt jp : Nat} {a b : Int32} (d : decode cc pc = .ok (.ifCond .lt off, 3)) (ht : (pc : Int) + off = (tgt : Int)) (k1 : x < 0 → J F nL cv E σ jp lv (.int a :: st) → J F nL cv E σ tgt lv st) (k2 : ¬ x < 0 → J F nL cv E σ jp lv (.int b :: st) → J F nL cv E σ (pc + 3) lv st) (K : J F nL cv E σ jp lv (.int (if x < 0 then a else b) :: st)) : J F nL cv E σ pc lv (.int x :: st) := fun hE H locs ls hP hS hl => lv_if_lt C.1 C.2.1 d ht (fun c => k1 c (by rw [if_pos c] at K; exact K) hE H locs ls hP hS hl) (fun c => k2 c (by rw [if_neg c] at K; exact K) hE H locs ls hP hS hl)
theorem j_icmp_lt (C : Ctx F cc nL own ret fr lo) {off : Int} {tgt : Nat} (d : decode cc pc = .ok (.if_icmp .lt off, 3)) (ht : (pc : Int) + off = (tgt : Int)) (k1 : x < y → J F nL cv A σ tgt lv st) (k2 : ¬ x < y → J F nL cv B σ (pc + 3) lv st) : J F nL cv (if x < y then A else B) σ pc lv (.int y :: .int x :: st) := fun hE H locs ls hP hS hl => lv_icmp_lt C.1 C.2.1 d ht (fun c => k1 c (by rw [if_pos c] at hE; exact hE) H locs ls hP hS hl) (fun c => k2 c (by rw [if_neg c] at hE; exact hE) H locs ls hP hS hl)
theorem d_icmp_lt (C : Ctx F cc nL own ret fr lo) {off : Int} {tgt jp : Nat} {a b : Int32} (d : decode cc pc = .ok (.if_icmp .lt off, 3)) (ht : (pc : Int) + off = (tgt : Int)) (k1 : x < y → J F nL cv E σ jp lv (.int a :: st) → J F nL cv E σ tgt lv st) (k2 : ¬ x < y → J F nL cv E σ jp lv (.int b :: st) → J F nL cv E σ (pc + 3) lv st) (K : J F nL cv E σ jp lv (.int (if x < y then a else b) :: st)) : J F nL cv E σ pc lv (.int y :: .int x :: st) := fun hE H locs ls hP hS hl => lv_icmp_lt C.1 C.2.1 d ht (fun c => k1 c (by rw [if_pos c] at K; exact K) hE H locs ls hP hS hl) (fun c => k2 c (by rw [if_neg c] at K; exact K) hE H locs ls hP hS hl)
theorem j_if_ge (C : Ctx F cc nL own ret fr lo) {off : Int} {tgt : Nat} (d : decode cc pc = .ok (.ifCond .ge off, 3)) (ht : (pc : Int) + off = (tgt : Int)) (k1 : 0 ≤ x → J F nL cv A σ tgt lv st) (k2 : ¬ 0 ≤ x → J F nL cv B σ (pc + 3) lv st) : J F nL cv (if 0 ≤ x then A else B) σ pc lv (.int x :: st) := fun hE H locs ls hP hS hl => lv_if_ge C.1 C.2.1 d ht (fun c => k1 c (by rw [if_pos c] at hE; exact hE) H locs ls hP hS hl) (fun c => k2 c (by rw [if_neg c] at hE; exact hE) H locs ls hP hS hl)
theorem d_if_ge (C : Ctx F cc nL own ret fr lo) {off : Int} {tgt jp : Nat} {a b : Int32} (d : decode cc pc = .ok (.ifCond .ge off, 3)) (ht : (pc : Int) + off = (tgt : Int)) (k1 : 0 ≤ x → J F nL cv E σ jp lv (.int a :: st) → J F nL cv E σ tgt lv st) (k2 : ¬ 0 ≤ x → J F nL cv E σ jp lv (.int b :: st) → J F nL cv E σ (pc + 3) lv st) (K : J F nL cv E σ jp lv (.int (if 0 ≤ x then a else b) :: st)) : J F nL cv E σ pc lv (.int x :: st) := fun hE H locs ls hP hS hl => lv_if_ge C.1 C.2.1 d ht (fun c => k1 c (by rw [if_pos c] at K; exact K) hE H locs ls hP hS hl) (fun c => k2 c (by rw [if_neg c] at K; exact K) hE H locs ls hP hS hl)
theorem j_icmp_ge (C : Ctx F cc nL own ret fr lo) {off : Int} {tgt : Nat} (d : decode cc pc = .ok (.if_icmp .ge off, 3)) (ht : (pc : Int) + off = (tgt : Int)) (k1 : y ≤ x → J F nL cv A σ tgt lv st) (k2 : ¬ y ≤ x → J F nL cv B σ (pc + 3) lv st) : J F nL cv (if y ≤ x then A else B) σ pc lv (.int y :: .int x :: st) := fun hE H locs ls hP hS hl => lv_icmp_ge C.1 C.2.1 d ht (fun c => k1 c (by rw [if_pos c] at hE; exact hE) H locs ls hP hS hl) (fun c => k2 c (by rw [if_neg c] at hE; exact hE) H locs ls hP hS hl)
theorem d_icmp_ge (C : Ctx F cc nL own ret fr lo) {off : Int} {tgt jp : Nat} {a b : Int32} (d : decode cc pc = .ok (.if_icmp .ge off, 3)) (ht : (pc : Int) + off = (tgt : Int)) (k1 : y ≤ x → J F nL cv E σ jp lv (.int a :: st) → J F nL cv E σ tgt lv st) (k2 : ¬ y ≤ x → J F nL cv E σ jp lv (.int b :: st) → J F nL cv E σ (pc + 3) lv st) (K : J F nL cv E σ jp lv (.int (if y ≤ x then a else b) :: st)) : J F nL cv E σ pc lv (.int y :: .int x :: st) := fun hE H locs ls hP hS hl => lv_icmp_ge C.1 C.2.1 d ht (fun c => k1 c (by rw [if_pos c] at K; exact K) hE H locs ls hP hS hl) (fun c => k2 c (by rw [if_neg c] at K; exact K) hE H locs ls hP hS hl)
theorem j_if_gt (C : Ctx F cc nL own ret fr lo) {off : Int} {tgt : Nat} (d : decode cc pc = .ok (.ifCond .gt off, 3)) (ht : (pc : Int) + off = (tgt : Int)) (k1 : 0 < x → J F nL cv A σ tgt lv st) (k2 : ¬ 0 < x → J F nL cv B σ (pc + 3) lv st) : J F nL cv (if 0 < x then A else B) σ pc lv (.int x :: st) := fun hE H locs ls hP hS hl => lv_if_gt C.1 C.2.1 d ht (fun c => k1 c (by rw [if_pos c] at hE; exact hE) H locs ls hP hS hl) (fun c => k2 c (by rw [if_neg c] at hE; exact hE) H locs ls hP hS hl)
theorem d_if_gt (C : Ctx F cc nL own ret fr lo) {off : Int} {tgt jp : Nat} {a b : Int32} (d : decode cc pc = .ok (.ifCond .gt off, 3)) (ht : (pc : Int) + off = (tgt : Int)) (k1 : 0 < x → J F nL cv E σ jp lv (.int a :: st) → J F nL cv E σ tgt lv st) (k2 : ¬ 0 < x → J F nL cv E σ jp lv (.int b :: st) → J F nL cv E σ (pc + 3) lv st) (K : J F nL cv E σ jp lv (.int (if 0 < x then a else b) :: st)) : J F nL cv E σ pc lv (.int x :: st) := fun hE H locs ls hP hS hl => lv_if_gt C.1 C.2.1 d ht (fun c => k1 c (by rw [if_pos c] at K; exact K) hE H locs ls hP hS hl) (fun c => k2 c (by rw [if_neg c] at K; exact K) hE H locs ls hP hS hl)
theorem j_icmp_gt (C : Ctx F cc nL own ret fr lo) {off : Int} {tgt : Nat} (d : decode cc pc = .ok (.if_icmp .gt off, 3)) (ht : (pc : Int) + off = (tgt : Int)) (k1 : y < x → J F nL cv A σ tgt lv st) (k2 : ¬ y < x → J F nL cv B σ (pc + 3) lv st) : J F nL cv (if y < x then A else B) σ pc lv (.int y :: .int x :: st) := fun hE H locs ls hP hS hl => lv_icmp_gt C.1 C.2.1 d ht (fun c => k1 c (by rw [if_pos c] at hE; exact hE) H locs ls hP hS hl) (fun c => k2 c (by rw [if_neg c] at hE; exact hE) H locs ls hP hS hl)
theorem d_icmp_gt (C : Ctx F cc nL own ret fr lo) {off : Int} {tgt jp : Nat} {a b : Int32} (d : decode cc pc = .ok (.if_icmp .gt off, 3)) (ht : (pc : Int) + off = (tgt : Int)) (k1 : y < x → J F nL cv E σ jp lv (.int a :: st) → J F nL cv E σ tgt lv st) (k2 : ¬ y < x → J F nL cv E σ jp lv (.int b :: st) → J F nL cv E σ (pc + 3) lv st) (K : J F nL cv E σ jp lv (.int (if y < x then a else b) :: st)) : J F nL cv E σ pc lv (.int y :: .int x :: st) := fun hE H locs ls hP hS hl => lv_icmp_gt C.1 C.2.1 d ht (fun c => k1 c (by rw [if_pos c] at K; exact K) hE H locs ls hP hS hl) (fun c => k2 c (by rw [if_neg c] at K; exact K) hE H locs ls hP hS hl)
theorem j_if_le (C : Ctx F cc nL own ret fr lo) {off : Int} {tgt : Nat} (d : decode cc pc = .ok (.ifCond .le off, 3)) (ht : (pc : Int) + off = (tgt : Int)) (k1 : x ≤ 0 → J F nL cv A σ tgt lv st) (k2 : ¬ x ≤ 0 → J F nL cv B σ (pc + 3) lv st) : J F nL cv (if x ≤ 0 then A else B) σ pc lv (.int x :: st) := fun hE H locs ls hP hS hl => lv_if_le C.1 C.2.1 d ht (fun c => k1 c (by rw [if_pos c] at hE; exact hE) H locs ls hP hS hl) (fun c => k2 c (by rw [if_neg c] at hE; exact hE) H locs ls hP hS hl)
theorem d_if_le (C : Ctx F cc nL own ret fr lo) {off : Int} {tgt jp : Nat} {a b : Int32} (d : decode cc pc = .ok (.ifCond .le off, 3)) (ht : (pc : Int) + off = (tgt : Int)) (k1 : x ≤ 0 → J F nL cv E σ jp lv (.int a :: st) → J F nL cv E σ tgt lv st) (k2 : ¬ x ≤ 0 → J F nL cv E σ jp lv (.int b :: st) → J F nL cv E σ (pc + 3) lv st) (K : J F nL cv E σ jp lv (.int (if x ≤ 0 then a else b) :: st)) : J F nL cv E σ pc lv (.int x :: st) := fun hE H locs ls hP hS hl => lv_if_le C.1 C.2.1 d ht (fun c => k1 c (by rw [if_pos c] at K; exact K) hE H locs ls hP hS hl) (fun c => k2 c (by rw [if_neg c] at K; exact K) hE H locs ls hP hS hl)
theorem j_icmp_le (C : Ctx F cc nL own ret fr lo) {off : Int} {tgt : Nat} (d : decode cc pc = .ok (.if_icmp .le off, 3)) (ht : (pc : Int) + off = (tgt : Int)) (k1 : x ≤ y → J F nL cv A σ tgt lv st) (k2 : ¬ x ≤ y → J F nL cv B σ (pc + 3) lv st) : J F nL cv (if x ≤ y then A else B) σ pc lv (.int y :: .int x :: st) := fun hE H locs ls hP hS hl => lv_icmp_le C.1 C.2.1 d ht (fun c => k1 c (by rw [if_pos c] at hE; exact hE) H locs ls hP hS hl) (fun c => k2 c (by rw [if_neg c] at hE; exact hE) H locs ls hP hS hl)
theorem d_icmp_le (C : Ctx F cc nL own ret fr lo) {off : Int} {tgt jp : Nat} {a b : Int32} (d : decode cc pc = .ok (.if_icmp .le off, 3)) (ht : (pc : Int) + off = (tgt : Int)) (k1 : x ≤ y → J F nL cv E σ jp lv (.int a :: st) → J F nL cv E σ tgt lv st) (k2 : ¬ x ≤ y → J F nL cv E σ jp lv (.int b :: st) → J F nL cv E σ (pc + 3) lv st) (K : J F nL cv E σ jp lv (.int (if x ≤ y then a else b) :: st)) : J F nL cv E σ pc lv (.int y :: .int x :: st) := fun hE H locs ls hP hS hl => lv_icmp_le C.1 C.2.1 d ht (fun c => k1 c (by rw [if_pos c] at K; exact K) hE H locs ls hP hS hl) (fun c => k2 c (by rw [if_neg c] at K; exact K) hE H locs ls hP hS hl)
theorem j_nm {e : Int32} {Kf : Int32 → β} (K : ∀ v, v = e → J F nL cv (Kf v) σ pc lv (.int v :: st)) : J F nL cv (lt e Kf) σ pc lv (.int e :: st) := K e rfl
end JR
theorem leaf_eq {a b : Rs} (h : some a = some b) : b = a := (Option.some.inj h).symm
theorem ite01 {c : Prop} [Decidable c] {a b : Int32} (ha : a = 0 ∨ a = 1) (hb : b = 0 ∨ b = 1) : (if c then a else b) = 0 ∨ (if c then a else b) = 1 := by split <;> assumption
theorem eq01 {a b : Int32} (h : a = b) (hb : b = 0 ∨ b = 1) : a = 0 ∨ a = 1 := by rw [h]; exact hb
abbrev cvI (σ : Mem) : Int32 → Option Rs := fun r => some (.inl (some (.int r)), σ)
abbrev cvIM : Int32 × Mem → Option Rs := fun q => some (.inl (some (.int q.1)), q.2)
abbrev cvM : Mem → Option Rs := fun σ => some (.inl none, σ)
abbrev cvXI (σ : Mem) : Int32 ⊕ Nat → Option Rs := fun q => match q with | .inl r => some (.inl (some (.int r)), σ) | .inr n => some (.inr n, σ)
abbrev cvXIM : (Int32 ⊕ Nat) × Mem → Option Rs := fun q => match q.1 with | .inl r => some (.inl (some (.int r)), q.2) | .inr n => some (.inr n, q.2)
abbrev cvXV (σ : Mem) : Unit ⊕ Nat → Option Rs := fun q => match q with | .inl _ => some (.inl none, σ) | .inr n => some (.inr n, σ)
abbrev cvO {α : Type} (cv : α → Option Rs) : Option α → Option Rs := fun o => o.bind cv
def xcase {α β : Type} (t : α ⊕ Nat) (a : α → β) (b : Nat → β) : β := match t with | .inl v => a v | .inr n => b n
theorem j_xcase {α β : Type} {F : Fx} {nL : Nat} {cv : β → Option Rs} {σ : Mem} {pc : Nat} {lv : List (Nat × Value)} {st : List Value} {t : α ⊕ Nat} {a : α → β} {b : Nat → β} (k1 : ∀ v, t = .inl v → J F nL cv (a v) σ pc lv st) (k2 : ∀ n, t = .inr n → J F nL cv (b n) σ pc lv st) : J F nL cv (xcase t a b) σ pc lv st := by cases t with | inl v => exact k1 v rfl | inr n => exact k2 n rfl
theorem j_join0m {β : Type} {F : Fx} {nL : Nat} {cv : β → Option Rs} {σ : Mem} {pc : Nat} {lv : List (Nat × Value)} {st : List Value} {Kf : Mem → β} {G : (Mem → β) → β} (M : Nat) (L : Mem → List (Nat × Value)) (T : Mem → List Value) (hK : ∀  (τ : Mem), J F nL cv (Kf τ) τ M (L τ) (T τ)) (k : ∀ Kg : Mem → β, (∀  (τ : Mem), J F nL cv (Kg τ) τ M (L τ) (T τ)) → J F nL cv (G Kg) σ pc lv st) : J F nL cv (lt Kf G) σ pc lv st := k Kf hK
theorem j_join1 {β : Type} {F : Fx} {nL : Nat} {cv : β → Option Rs} {σ : Mem} {pc : Nat} {lv : List (Nat × Value)} {st : List Value} {Kf : Int32 → β} {G : (Int32 → β) → β} (M : Nat) (L : Int32 → List (Nat × Value)) (T : Int32 → List Value) (hK : ∀ (x0 : Int32), J F nL cv (Kf x0) σ M (L x0) (T x0)) (k : ∀ Kg : Int32 → β, (∀ (x0 : Int32), J F nL cv (Kg x0) σ M (L x0) (T x0)) → J F nL cv (G Kg) σ pc lv st) : J F nL cv (lt Kf G) σ pc lv st := k Kf hK
theorem j_join1m {β : Type} {F : Fx} {nL : Nat} {cv : β → Option Rs} {σ : Mem} {pc : Nat} {lv : List (Nat × Value)} {st : List Value} {Kf : Int32 → Mem → β} {G : (Int32 → Mem → β) → β} (M : Nat) (L : Int32 → Mem → List (Nat × Value)) (T : Int32 → Mem → List Value) (hK : ∀ (x0 : Int32) (τ : Mem), J F nL cv (Kf x0 τ) τ M (L x0 τ) (T x0 τ)) (k : ∀ Kg : Int32 → Mem → β, (∀ (x0 : Int32) (τ : Mem), J F nL cv (Kg x0 τ) τ M (L x0 τ) (T x0 τ)) → J F nL cv (G Kg) σ pc lv st) : J F nL cv (lt Kf G) σ pc lv st := k Kf hK
theorem j_join2 {β : Type} {F : Fx} {nL : Nat} {cv : β → Option Rs} {σ : Mem} {pc : Nat} {lv : List (Nat × Value)} {st : List Value} {Kf : Int32 → Int32 → β} {G : (Int32 → Int32 → β) → β} (M : Nat) (L : Int32 → Int32 → List (Nat × Value)) (T : Int32 → Int32 → List Value) (hK : ∀ (x0 : Int32) (x1 : Int32), J F nL cv (Kf x0 x1) σ M (L x0 x1) (T x0 x1)) (k : ∀ Kg : Int32 → Int32 → β, (∀ (x0 : Int32) (x1 : Int32), J F nL cv (Kg x0 x1) σ M (L x0 x1) (T x0 x1)) → J F nL cv (G Kg) σ pc lv st) : J F nL cv (lt Kf G) σ pc lv st := k Kf hK
theorem j_join2m {β : Type} {F : Fx} {nL : Nat} {cv : β → Option Rs} {σ : Mem} {pc : Nat} {lv : List (Nat × Value)} {st : List Value} {Kf : Int32 → Int32 → Mem → β} {G : (Int32 → Int32 → Mem → β) → β} (M : Nat) (L : Int32 → Int32 → Mem → List (Nat × Value)) (T : Int32 → Int32 → Mem → List Value) (hK : ∀ (x0 : Int32) (x1 : Int32) (τ : Mem), J F nL cv (Kf x0 x1 τ) τ M (L x0 x1 τ) (T x0 x1 τ)) (k : ∀ Kg : Int32 → Int32 → Mem → β, (∀ (x0 : Int32) (x1 : Int32) (τ : Mem), J F nL cv (Kg x0 x1 τ) τ M (L x0 x1 τ) (T x0 x1 τ)) → J F nL cv (G Kg) σ pc lv st) : J F nL cv (lt Kf G) σ pc lv st := k Kf hK
theorem j_join3 {β : Type} {F : Fx} {nL : Nat} {cv : β → Option Rs} {σ : Mem} {pc : Nat} {lv : List (Nat × Value)} {st : List Value} {Kf : Int32 → Int32 → Int32 → β} {G : (Int32 → Int32 → Int32 → β) → β} (M : Nat) (L : Int32 → Int32 → Int32 → List (Nat × Value)) (T : Int32 → Int32 → Int32 → List Value) (hK : ∀ (x0 : Int32) (x1 : Int32) (x2 : Int32), J F nL cv (Kf x0 x1 x2) σ M (L x0 x1 x2) (T x0 x1 x2)) (k : ∀ Kg : Int32 → Int32 → Int32 → β, (∀ (x0 : Int32) (x1 : Int32) (x2 : Int32), J F nL cv (Kg x0 x1 x2) σ M (L x0 x1 x2) (T x0 x1 x2)) → J F nL cv (G Kg) σ pc lv st) : J F nL cv (lt Kf G) σ pc lv st := k Kf hK
theorem j_join3m {β : Type} {F : Fx} {nL : Nat} {cv : β → Option Rs} {σ : Mem} {pc : Nat} {lv : List (Nat × Value)} {st : List Value} {Kf : Int32 → Int32 → Int32 → Mem → β} {G : (Int32 → Int32 → Int32 → Mem → β) → β} (M : Nat) (L : Int32 → Int32 → Int32 → Mem → List (Nat × Value)) (T : Int32 → Int32 → Int32 → Mem → List Value) (hK : ∀ (x0 : Int32) (x1 : Int32) (x2 : Int32) (τ : Mem), J F nL cv (Kf x0 x1 x2 τ) τ M (L x0 x1 x2 τ) (T x0 x1 x2 τ)) (k : ∀ Kg : Int32 → Int32 → Int32 → Mem → β, (∀ (x0 : Int32) (x1 : Int32) (x2 : Int32) (τ : Mem), J F nL cv (Kg x0 x1 x2 τ) τ M (L x0 x1 x2 τ) (T x0 x1 x2 τ)) → J F nL cv (G Kg) σ pc lv st) : J F nL cv (lt Kf G) σ pc lv st := k Kf hK
theorem j_join4 {β : Type} {F : Fx} {nL : Nat} {cv : β → Option Rs} {σ : Mem} {pc : Nat} {lv : List (Nat × Value)} {st : List Value} {Kf : Int32 → Int32 → Int32 → Int32 → β} {G : (Int32 → Int32 → Int32 → Int32 → β) → β} (M : Nat) (L : Int32 → Int32 → Int32 → Int32 → List (Nat × Value)) (T : Int32 → Int32 → Int32 → Int32 → List Value) (hK : ∀ (x0 : Int32) (x1 : Int32) (x2 : Int32) (x3 : Int32), J F nL cv (Kf x0 x1 x2 x3) σ M (L x0 x1 x2 x3) (T x0 x1 x2 x3)) (k : ∀ Kg : Int32 → Int32 → Int32 → Int32 → β, (∀ (x0 : Int32) (x1 : Int32) (x2 : Int32) (x3 : Int32), J F nL cv (Kg x0 x1 x2 x3) σ M (L x0 x1 x2 x3) (T x0 x1 x2 x3)) → J F nL cv (G Kg) σ pc lv st) : J F nL cv (lt Kf G) σ pc lv st := k Kf hK
theorem j_join4m {β : Type} {F : Fx} {nL : Nat} {cv : β → Option Rs} {σ : Mem} {pc : Nat} {lv : List (Nat × Value)} {st : List Value} {Kf : Int32 → Int32 → Int32 → Int32 → Mem → β} {G : (Int32 → Int32 → Int32 → Int32 → Mem → β) → β} (M : Nat) (L : Int32 → Int32 → Int32 → Int32 → Mem → List (Nat × Value)) (T : Int32 → Int32 → Int32 → Int32 → Mem → List Value) (hK : ∀ (x0 : Int32) (x1 : Int32) (x2 : Int32) (x3 : Int32) (τ : Mem), J F nL cv (Kf x0 x1 x2 x3 τ) τ M (L x0 x1 x2 x3 τ) (T x0 x1 x2 x3 τ)) (k : ∀ Kg : Int32 → Int32 → Int32 → Int32 → Mem → β, (∀ (x0 : Int32) (x1 : Int32) (x2 : Int32) (x3 : Int32) (τ : Mem), J F nL cv (Kg x0 x1 x2 x3 τ) τ M (L x0 x1 x2 x3 τ) (T x0 x1 x2 x3 τ)) → J F nL cv (G Kg) σ pc lv st) : J F nL cv (lt Kf G) σ pc lv st := k Kf hK
theorem j_join5 {β : Type} {F : Fx} {nL : Nat} {cv : β → Option Rs} {σ : Mem} {pc : Nat} {lv : List (Nat × Value)} {st : List Value} {Kf : Int32 → Int32 → Int32 → Int32 → Int32 → β} {G : (Int32 → Int32 → Int32 → Int32 → Int32 → β) → β} (M : Nat) (L : Int32 → Int32 → Int32 → Int32 → Int32 → List (Nat × Value)) (T : Int32 → Int32 → Int32 → Int32 → Int32 → List Value) (hK : ∀ (x0 : Int32) (x1 : Int32) (x2 : Int32) (x3 : Int32) (x4 : Int32), J F nL cv (Kf x0 x1 x2 x3 x4) σ M (L x0 x1 x2 x3 x4) (T x0 x1 x2 x3 x4)) (k : ∀ Kg : Int32 → Int32 → Int32 → Int32 → Int32 → β, (∀ (x0 : Int32) (x1 : Int32) (x2 : Int32) (x3 : Int32) (x4 : Int32), J F nL cv (Kg x0 x1 x2 x3 x4) σ M (L x0 x1 x2 x3 x4) (T x0 x1 x2 x3 x4)) → J F nL cv (G Kg) σ pc lv st) : J F nL cv (lt Kf G) σ pc lv st := k Kf hK
theorem j_join5m {β : Type} {F : Fx} {nL : Nat} {cv : β → Option Rs} {σ : Mem} {pc : Nat} {lv : List (Nat × Value)} {st : List Value} {Kf : Int32 → Int32 → Int32 → Int32 → Int32 → Mem → β} {G : (Int32 → Int32 → Int32 → Int32 → Int32 → Mem → β) → β} (M : Nat) (L : Int32 → Int32 → Int32 → Int32 → Int32 → Mem → List (Nat × Value)) (T : Int32 → Int32 → Int32 → Int32 → Int32 → Mem → List Value) (hK : ∀ (x0 : Int32) (x1 : Int32) (x2 : Int32) (x3 : Int32) (x4 : Int32) (τ : Mem), J F nL cv (Kf x0 x1 x2 x3 x4 τ) τ M (L x0 x1 x2 x3 x4 τ) (T x0 x1 x2 x3 x4 τ)) (k : ∀ Kg : Int32 → Int32 → Int32 → Int32 → Int32 → Mem → β, (∀ (x0 : Int32) (x1 : Int32) (x2 : Int32) (x3 : Int32) (x4 : Int32) (τ : Mem), J F nL cv (Kg x0 x1 x2 x3 x4 τ) τ M (L x0 x1 x2 x3 x4 τ) (T x0 x1 x2 x3 x4 τ)) → J F nL cv (G Kg) σ pc lv st) : J F nL cv (lt Kf G) σ pc lv st := k Kf hK
theorem j_join6 {β : Type} {F : Fx} {nL : Nat} {cv : β → Option Rs} {σ : Mem} {pc : Nat} {lv : List (Nat × Value)} {st : List Value} {Kf : Int32 → Int32 → Int32 → Int32 → Int32 → Int32 → β} {G : (Int32 → Int32 → Int32 → Int32 → Int32 → Int32 → β) → β} (M : Nat) (L : Int32 → Int32 → Int32 → Int32 → Int32 → Int32 → List (Nat × Value)) (T : Int32 → Int32 → Int32 → Int32 → Int32 → Int32 → List Value) (hK : ∀ (x0 : Int32) (x1 : Int32) (x2 : Int32) (x3 : Int32) (x4 : Int32) (x5 : Int32), J F nL cv (Kf x0 x1 x2 x3 x4 x5) σ M (L x0 x1 x2 x3 x4 x5) (T x0 x1 x2 x3 x4 x5)) (k : ∀ Kg : Int32 → Int32 → Int32 → Int32 → Int32 → Int32 → β, (∀ (x0 : Int32) (x1 : Int32) (x2 : Int32) (x3 : Int32) (x4 : Int32) (x5 : Int32), J F nL cv (Kg x0 x1 x2 x3 x4 x5) σ M (L x0 x1 x2 x3 x4 x5) (T x0 x1 x2 x3 x4 x5)) → J F nL cv (G Kg) σ pc lv st) : J F nL cv (lt Kf G) σ pc lv st := k Kf hK
theorem j_join6m {β : Type} {F : Fx} {nL : Nat} {cv : β → Option Rs} {σ : Mem} {pc : Nat} {lv : List (Nat × Value)} {st : List Value} {Kf : Int32 → Int32 → Int32 → Int32 → Int32 → Int32 → Mem → β} {G : (Int32 → Int32 → Int32 → Int32 → Int32 → Int32 → Mem → β) → β} (M : Nat) (L : Int32 → Int32 → Int32 → Int32 → Int32 → Int32 → Mem → List (Nat × Value)) (T : Int32 → Int32 → Int32 → Int32 → Int32 → Int32 → Mem → List Value) (hK : ∀ (x0 : Int32) (x1 : Int32) (x2 : Int32) (x3 : Int32) (x4 : Int32) (x5 : Int32) (τ : Mem), J F nL cv (Kf x0 x1 x2 x3 x4 x5 τ) τ M (L x0 x1 x2 x3 x4 x5 τ) (T x0 x1 x2 x3 x4 x5 τ)) (k : ∀ Kg : Int32 → Int32 → Int32 → Int32 → Int32 → Int32 → Mem → β, (∀ (x0 : Int32) (x1 : Int32) (x2 : Int32) (x3 : Int32) (x4 : Int32) (x5 : Int32) (τ : Mem), J F nL cv (Kg x0 x1 x2 x3 x4 x5 τ) τ M (L x0 x1 x2 x3 x4 x5 τ) (T x0 x1 x2 x3 x4 x5 τ)) → J F nL cv (G Kg) σ pc lv st) : J F nL cv (lt Kf G) σ pc lv st := k Kf hK
theorem j_join0 {β : Type} {F : Fx} {nL : Nat} {cv : β → Option Rs} {σ : Mem} {pc : Nat} {lv : List (Nat × Value)} {st : List Value} {Kf : β} {G : β → β} (M : Nat) (L : List (Nat × Value)) (T : List Value) (hK : J F nL cv Kf σ M L T) (k : ∀ Kg : β, J F nL cv Kg σ M L T → J F nL cv (G Kg) σ pc lv st) : J F nL cv (lt Kf G) σ pc lv st := k Kf hK
end
section
/-! ROWS over the world: fields, arrays -/
def Is (k c : Nat) : Prop := k < wN ∧ wkd k = c
def FL (own : String) (idx c j : Nat) : Prop := ∃ q : vw_C, vcl[c]? = some q ∧ j < q.2.2 ∧ q.2.2 = wnf c ∧ c < 100 ∧ (Cond.fieldLink own idx (q.2.1 j).1 (q.2.1 j).2.1 (q.2.1 j).2.2.1 ∈ lw_tbl ∨ ∃ h, Cond.fieldLinkNest own idx (q.2.1 j).1 (q.2.1 j).2.1 (q.2.1 j).2.2.1 h ∈ lw_tbl)
section JH
variable {β : Type} {F : Fx} {nL : Nat} {cv : β → Option Rs} {E A B : β} {σ : Mem} {pc : Nat} {lv : List (Nat × Value)} {st : List Value} {cc : ByteArray} {own : String} {ret : Option FieldType} {fr lo : Nat} {x y v i : Int32} {k c j idx : Nat}
theorem Ctx.wds (C : Ctx F cc nL own ret fr lo) {w : Cond} (h : w ∈ lw_tbl) (hg : stb w = true) : w.before F.2.1.2.1 F.1.2.2.2.2 = true := C.2.2.2.2.2.2.2.2.1.2.1 w h hg _
theorem Ctx.hown (C : Ctx F cc nL own ret fr lo) : F.1.2.2.2.2.vm.findClass own = some F.2.1.1.cls := C.2.2.2.1
theorem Ctx.env (C : Ctx F cc nL own ret fr lo) : Env0 F.2.2.1 F.2.2.2.1 F.2.2.2.2.1 F.1.2.2.2.2 F.1.2.2.2.2.heap := C.2.2.2.2.2.2.2.2.1
theorem Ctx.K (C : Ctx F cc nL own ret fr lo) : va_K F.2.2.1 vcl (wtys F.2.2.2.1) F.1.2.2.2.2 := C.env.1
theorem Ctx.D (C : Ctx F cc nL own ret fr lo) (σ : Mem) : va_D (wA F.2.2.2.2.1 F.1.2.2.2.2.heap.size) (wld F.2.2.2.1 F.2.2.2.2.1 σ) := wld_D C.env.2.2.2.2.2
theorem Ctx.us (C : Ctx F cc nL own ret fr lo) {q : vw_C} (hq : vcl[c]? = some q) : ∀ w ∈ u_ws q.1 q.2.1 q.2.2, w.before F.2.1.2.1 F.1.2.2.2.2 = true := fun w hw => C.wds (us_all c q hq w hw).1 (us_all c q hq w hw).2
theorem j_getV (C : Ctx F cc nL own ret fr lo) {z : Value} (h : Is k c) (f : FL own idx c j) (hz : (if wrf c j = true then Value.ref (fad F (wtg k j)) else .int (σ k j)) = z) (d : decode cc pc = .ok (.getfield idx, 3)) (K : J F nL cv E σ (pc + 3) lv (z :: st)) : J F nL cv E σ pc lv (.ref (fad F k) :: st) := by
  intro hE H locs ls hP hS hl
  obtain ⟨q, hq, hj, hN, h100, hlk⟩ := f
  have hat := wld_obj (G := F.2.2.2.1) (ad := F.2.2.2.2.1) (σ := σ) h.1 h.2 h100
  have hv : (wfl F.2.2.2.2.1 σ k)[j]? = some z := by rw [wfl_at h.2 (hN ▸ hj)]; exact congrArg some hz
  rcases hlk with hlk | ⟨ho, hlk⟩
  · exact va_get C.1 C.2.1 (C.us hq) (fun _ h => h) C.hown C.K hP k hat hq j hj (C.wds hlk rfl) (fun _ h => h) hv d (K hE H locs ls hP hS hl)
  · exact va_getN C.1 C.2.1 (C.us hq) (fun _ h => h) C.hown C.K hP k hat hq j hj (C.wds hlk rfl) (fun _ h => h) hv d (K hE H locs ls hP hS hl)
theorem j_getI (C : Ctx F cc nL own ret fr lo) (h : Is k c) (f : FL own idx c j) (hr : wrf c j = false) (d : decode cc pc = .ok (.getfield idx, 3)) (K : J F nL cv E σ (pc + 3) lv (.int (σ k j) :: st)) : J F nL cv E σ pc lv (.ref (fad F k) :: st) := j_getV C h f (by rw [hr]; rfl) d K
theorem j_getR (C : Ctx F cc nL own ret fr lo) (h : Is k c) (f : FL own idx c j) (hr : wrf c j = true) (d : decode cc pc = .ok (.getfield idx, 3)) (K : J F nL cv E σ (pc + 3) lv (.ref (fad F (wtg k j)) :: st)) : J F nL cv E σ pc lv (.ref (fad F k) :: st) := j_getV C h f (by rw [hr]; rfl) d K
/-- a field that may be written, and of which kind -/
def FW (c j : Nat) (ty : FieldType) : Prop := ∃ q : vw_C, vcl[c]? = some q ∧ (q.2.1 j).2.2.2 = false ∧ parseFieldDescriptor (q.2.1 j).2.2.1 = some ty
theorem j_put {Kf : Mem → β} {ty : FieldType} (C : Ctx F cc nL own ret fr lo) (h : Is k c) (f : FL own idx c j) (fw : FW c j ty) (hr : wrf c j = false) (hn : narrow ty (.int v) = .int v) (hfit : fits ty (.int v) = true) (d : decode cc pc = .ok (.putfield idx, 3)) (K : ∀ σ', J F nL cv (Kf σ') σ' (pc + 3) lv st) : J F nL cv (lt (mput σ k j v) Kf) σ pc lv (.int v :: .ref (fad F k) :: st) := by
  intro hE H locs ls hP hS hl
  obtain ⟨q, hq, hj, hN, h100, hlk⟩ := f
  obtain ⟨q', hq', hfin, hd⟩ := fw
  cases Option.some.inj (hq.symm.trans hq')
  obtain ⟨ty0, hty, hnm⟩ := ty_all c q hq
  have hat := wld_obj (G := F.2.2.2.1) (ad := F.2.2.2.2.1) (σ := σ) h.1 h.2 h100
  have hset := wld_put (G := F.2.2.2.1) (ad := F.2.2.2.2.1) (σ := σ) (v := v) h.1 h.2 h100 (hN ▸ hj) hr
  have hlen : j < (wfl F.2.2.2.2.1 σ k).length := by rw [wfl_len h.2]; exact hN ▸ hj
  rcases hlk with hlk | ⟨ho, hlk⟩
  · exact va_put C.1 C.2.1 (C.us hq) (fun _ h => h) ty0 hty hnm C.hown C.K hP (C.D σ) hS k hat hq j hj (C.wds hlk rfl) (fun _ h => h) hfin hd hn hfit hlen d (fun H1 locs1 hP1 _ hS1 => K _ hE H1 locs1 ls (by rw [hset] at hP1; exact hP1) hS1 hl)
  · exact va_putN C.1 C.2.1 (C.us hq) (fun _ h => h) ty0 hty hnm C.hown C.K hP (C.D σ) hS k hat hq j hj (C.wds hlk rfl) (fun _ h => h) hfin hd hn hfit hlen d (fun H1 locs1 hP1 _ hS1 => K _ hE H1 locs1 ls (by rw [hset] at hP1; exact hP1) hS1 hl)
theorem nz01 (h : v = 0 ∨ v = 1) : narrow .boolean (.int v) = .int v := by rcases h with rfl | rfl <;> rfl
theorem j_alen (C : Ctx F cc nL own ret fr lo) (h : Is k 100) (d : decode cc pc = .ok (.arraylength, 1)) (K : J F nL cv E σ (pc + 1) lv (.int (nI (wln k)) :: st)) : J F nL cv E σ pc lv (.ref (fad F k) :: st) := by
  intro hE H locs ls hP hS hl
  exact va_alen C.1 C.2.1 C.K hP k 0 (wld_int h.1 h.2) rfl rfl d (K hE H locs ls hP hS hl)
theorem j_iald (C : Ctx F cc nL own ret fr lo) (h : Is k 100) (hin : vp_in i (wln k)) (d : decode cc pc = .ok (.iaload, 1)) (K : J F nL cv E σ (pc + 1) lv (.int (σ k i.toNatClampNeg) :: st)) : J F nL cv E σ pc lv (.int i :: .ref (fad F k) :: st) := by
  intro hE H locs ls hP hS hl
  exact va_iald C.1 C.2.1 C.K hP k 0 (wld_int h.1 h.2) rfl hin d (K hE H locs ls hP hS hl)
theorem j_zald (C : Ctx F cc nL own ret fr lo) (h : Is k 101) (hin : vp_in i (wln k)) (d : decode cc pc = .ok (.baload, 1)) (K : J F nL cv E σ (pc + 1) lv (.int (σ k i.toNatClampNeg) :: st)) : J F nL cv E σ pc lv (.int i :: .ref (fad F k) :: st) := by
  intro hE H locs ls hP hS hl
  exact va_zald C.1 C.2.1 C.K hP k 1 (wld_bool h.1 h.2) rfl hin d (K hE H locs ls hP hS hl)
theorem j_iast {Kf : Mem → β} (C : Ctx F cc nL own ret fr lo) (h : Is k 100) (hin : vp_in i (wln k)) (d : decode cc pc = .ok (.iastore, 1)) (K : ∀ σ', J F nL cv (Kf σ') σ' (pc + 1) lv st) : J F nL cv (lt (mput σ k i.toNatClampNeg v) Kf) σ pc lv (.int v :: .int i :: .ref (fad F k) :: st) := by
  intro hE H locs ls hP hS hl
  exact va_iast C.1 C.2.1 C.K hP (C.D σ) hS k 0 (wld_int h.1 h.2) rfl hin d (fun H1 locs1 hP1 _ hS1 => K _ hE H1 locs1 ls (by rw [wld_iput h.1 h.2] at hP1; exact hP1) hS1 hl)
def nz (v : Int32) : Int32 := vp_nar .boolean v
theorem j_zast {Kf : Mem → β} (C : Ctx F cc nL own ret fr lo) (h : Is k 101) (hin : vp_in i (wln k)) (d : decode cc pc = .ok (.bastore, 1)) (K : ∀ σ', J F nL cv (Kf σ') σ' (pc + 1) lv st) : J F nL cv (lt (mput σ k i.toNatClampNeg (nz v)) Kf) σ pc lv (.int v :: .int i :: .ref (fad F k) :: st) := by
  intro hE H locs ls hP hS hl
  exact va_zast C.1 C.2.1 C.K hP (C.D σ) hS k 1 (wld_bool h.1 h.2) rfl hin d (fun H1 locs1 hP1 _ hS1 => K _ hE H1 locs1 ls (by rw [show vp_nar .boolean v = nz v from rfl, wld_zput h.1 h.2] at hP1; exact hP1) hS1 hl)
/-- an index that the walk must still look at -/
def inb (i : Int32) (n : Nat) : Bool := decide (0 ≤ i) && decide (i.toNatClampNeg < n)
theorem inb_in {n : Nat} (h : inb i n = true) : vp_in i n := by
  simp only [inb, Bool.and_eq_true, decide_eq_true_eq] at h
  intro z
  rcases z with z | z
  · exact absurd h.1 (Int32.not_le.mpr z)
  · omega
theorem j_need {c : Bool} (h0 : cv B = none) (K : c = true → J F nL cv A σ pc lv st) : J F nL cv (if c = true then A else B) σ pc lv st := by
  intro hE
  by_cases h : c = true
  · rw [if_pos h] at hE
    exact K h hE
  · rw [if_neg h, h0] at hE
    cases hE
theorem vp_gd {n : Nat} (h1 : ¬ i < 0) (h2 : ¬ nI n ≤ i) (hn : n < 2 ^ 31) : vp_in i n := by
  rw [vp_in_iff]
  have a := Int32.not_lt.mp h1
  have b := Int32.not_le.mp h2
  rw [Int32.le_iff_toInt_le, Int32.toInt_zero] at a
  rw [Int32.lt_iff_toInt_lt, nI_toInt hn] at b
  exact ⟨a, b⟩
/-- a named number -/
theorem j_lt {α : Type} {e : α} {Kf : α → β} (K : J F nL cv (Kf e) σ pc lv st) : J F nL cv (lt e Kf) σ pc lv st := K
theorem j_bind {α γ : Type} {cv : Option γ → Option Rs} {g : Option α} {Kf : α → Option γ} (h0 : cv none = none) (K : ∀ q, g = some q → J F nL cv (Kf q) σ pc lv st) : J F nL cv (g.bind Kf) σ pc lv st := by
  intro hE
  cases hg : g with
  | none => rw [hg] at hE; exact absurd (hE.symm.trans h0) (fun h => by cases h)
  | some q => exact K q hg (by rw [hg] at hE; exact hE)
theorem ne_pos (h : ¬ x ≤ 0) : ¬ x = 0 := fun e => h (by rw [e]; exact Int32.le_refl 0)
theorem ne_lt (h : 0 < x) : ¬ x = 0 := fun e => absurd h (by rw [e]; decide)
end JH
end
section
/-! ROWS: ends, throws, calls -/
section JE
variable {β : Type} {F : Fx} {nL : Nat} {cv : β → Option Rs} {E : β} {σ σ1 : Mem} {pc : Nat} {lv : List (Nat × Value)} {st : List Value} {cc : ByteArray} {own : String} {ret : Option FieldType} {fr lo : Nat} {x y v : Int32} {k c idx n : Nat}
theorem QF.back {below : List Frame} {D : va_G} {G : GC} {ad : Nat → Nat} {ρ : Rs} {s : State} {o : Option Value} (hρ : ρ = (.inl o, σ)) {p : Program} {l : Launch} {e : Env} {R : Room} {m : MethodId} {args : Array Value} {meth : Method} {c : Code} {H : Heap} {locs : List Loc} {g : JFrame}
    (hP : va_P D vcl (wld G ad σ) H) (hS : va_S (wA ad s.heap.size) s.heap H locs)
    (k : W p l e R s m args below meth c H locs 0 0 (MQ below (fun _ st oc t => Out D G ad ρ st oc t) args s 0 0 (wA ad s.heap.size)) g) : W p l e R s m args below meth c H locs 0 0 (QF below D G ad ρ s) g := by
  intro T hT X
  obtain ⟨t, a1, oc, b1, b2, b3, L, b4, b5⟩ := k T hT X
  refine ⟨t, a1, oc, b1, b2, b3, L, ⟨b4.2.1, ?_⟩, b5⟩
  rw [hρ]
  exact b4.2.2
theorem j_ireti (C : Ctx F cc nL own (some .int) fr lo) (hcv : ∀ ρ, cv E = some ρ → ρ = (.inl (some (.int v)), σ)) (d : decode cc pc = .ok (.ireturn, 1)) : J F nL cv E σ pc lv [.int v] := by
  intro hE H locs ls hP hS hl
  have hρ := hcv _ hE
  have hlk := C.2.2.2.2.2.1
  refine QF.back hρ hP hS ?_
  exact W.iret C.1 C.2.1 C.2.2.2.2.1 (fun t ht hW => by rw [hρ]; exact ⟨rfl, by rw [ht]; exact hP, hS.F ht⟩) hS.2.2 d hlk
theorem j_iretz (C : Ctx F cc nL own (some .boolean) fr lo) (hcv : ∀ ρ, cv E = some ρ → ρ = (.inl (some (.int v)), σ)) (hn : narrow .boolean (.int v) = .int v) (d : decode cc pc = .ok (.ireturn, 1)) : J F nL cv E σ pc lv [.int v] := by
  intro hE H locs ls hP hS hl
  have hρ := hcv _ hE
  have hlk := C.2.2.2.2.2.1
  refine QF.back hρ hP hS ?_
  exact W.zret C.1 C.2.1 C.2.2.2.2.1 hn (fun t ht hW => by rw [hρ]; exact ⟨rfl, by rw [ht]; exact hP, hS.F ht⟩) hS.2.2 d hlk
theorem j_vret (C : Ctx F cc nL own none fr lo) (hcv : ∀ ρ, cv E = some ρ → ρ = (.inl none, σ)) (d : decode cc pc = .ok (.return_, 1)) : J F nL cv E σ pc lv [] := by
  intro hE H locs ls hP hS hl
  have hρ := hcv _ hE
  have hlk := C.2.2.2.2.2.1
  refine QF.back hρ hP hS ?_
  exact W.vret C.1 C.2.1 C.2.2.2.2.1 (fun t ht hW => by rw [hρ]; exact ⟨rfl, by rw [ht]; exact hP, hS.F ht⟩) hS.2.2 d hlk
/-- an exception that nobody here catches -/
theorem QF.thr {p : Program} {l : Launch} {e : Env} {R : Room} {s : State} {m : MethodId} {args : Array Value} {below : List Frame} {meth : Method} {c : Code} {T : State} {locs : List Loc} {D : va_G} {G : GC} {ad : Nat → Nat} {ρ : Rs} {n : Nat} {q : Addr} {ce : Cell} {g : JFrame} {cells slots : Nat}
    (X : Stand p l e R s m args below meth c T locs cells slots) (hρ : ρ = (.inr n, σ)) (hg : g.method = m) (hlk : g.locked = none) (hen : g.entered = []) (hx : ∀ x ∈ c.exceptionTable.toList, False) (hlocks : meth.locks = false) (hce : T.heap[q]? = some ce) (hv : ce.vm = .none) (hcl : s.vm.findClass (xNm n) = some ce.cls)
    (hP : va_P D vcl (wld G ad σ) T.heap) (hS : va_S (wA ad s.heap.size) s.heap T.heap locs) (hc : cells ≤ 1) (hs : slots ≤ 6) : ∃ t, Steps p.tables e below ((T.setTop g).pushFrame (.throwing q)) t ∧ QF below D G ad ρ s t := by
  obtain ⟨st1, hrun, hend, hW, hsm⟩ := X.leaveThrown q hg hlk hen (fun x hx' => (hx x hx').elim) hlocks
  refine ⟨_, st1, .threw q, hrun, hend, ?_, locs, ⟨hW, ?_⟩, hS.2.2⟩
  · rw [hρ]
    exact ⟨⟨q, ce, rfl, hce, hv, hcl⟩, hP, hS.1, hS.2.1⟩
  · rw [hρ]
    exact hsm.mono hc hs
end JE
end
section
/-! ROWS: calls -/
def ML (own : String) (idx : Nat) (y : MethodName) : Prop := Cond.methodLink own idx y ∈ lw_tbl ∨ ∃ h, Cond.methodLinkNest own idx y h ∈ lw_tbl
def MC (own : String) (idx : Nat) (y : MethodName) (bytes : ByteArray) (mL : Nat) (ret : Option FieldType) (n : Nat) : Prop :=
  ML own idx y ∧ Cond.initialized y.cls ∈ lw_tbl ∧ Cond.code y bytes mL ret ∈ lw_tbl ∧ (y.cls ≠ "java/lang/invoke/MethodHandle" ∧ y.cls ≠ "java/lang/invoke/VarHandle") ∧ (parseMethodDescriptor y.desc).map (fun d => d.parameters.length) = some n
theorem stb_code {y : MethodName} {b : ByteArray} {n : Nat} {r : Option FieldType} : stb (.code y b n r) = true := by first | rfl | simp [stb, Cond.onTables, Cond.keeps, Cond.steady]
theorem stb_ini {c : String} : stb (.initialized c) = true := by first | rfl | simp [stb, Cond.onTables, Cond.keeps, Cond.steady]
theorem stb_ml {o : String} {i : Nat} {y : MethodName} : stb (.methodLink o i y) = true := by first | rfl | simp [stb, Cond.onTables, Cond.keeps, Cond.steady]
theorem stb_inst {y : MethodName} : stb (.instanceMethod y) = true := by first | rfl | simp [stb, Cond.onTables, Cond.keeps, Cond.steady]
theorem stb_sel {c : String} {y z : MethodName} : stb (.selects c y z) = true := by first | rfl | simp [stb, Cond.onTables, Cond.keeps, Cond.steady]
theorem stb_static {y : MethodName} : stb (.static y) = true := by first | rfl | simp [stb, Cond.onTables, Cond.keeps, Cond.steady]
theorem va_S.next {ad : Nat → Nat} {H0 H H1 : Heap} {locs L : List Loc} (hS : va_S (wA ad H0.size) H0 H locs) (h1 : H.size ≤ H1.size) (h2 : ∀ q : Nat, q < H.size → ¬ wA ad H.size q → H1[q]? = H[q]?) (hL : ∀ q ∈ L, wA ad H.size q.base) : va_S (wA ad H0.size) H0 H1 (locs ++ L) := by
  refine ⟨Nat.le_trans hS.1 h1, fun q hq hn => ?_, fun q hq => ?_⟩
  · rw [h2 q (Nat.lt_of_lt_of_le hq hS.1) (fun z => hn (wA_mono hS.1 q z))]
    exact hS.2.1 q hq hn
  · rcases List.mem_append.mp hq with h | h
    · exact hS.2.2 q h
    · exact wA_mono hS.1 _ (hL q h)
section JC
variable {β : Type} {F : Fx} {nL : Nat} {cv : β → Option Rs} {E : β} {σ : Mem} {ρc : Rs} {pc : Nat} {lv : List (Nat × Value)} {st : List Value} {cc : ByteArray} {own : String} {ret rt : Option FieldType} {fr lo fr1 lo1 : Nat} {k c idx n mL : Nat} {y : MethodName} {bytes : ByteArray} {As : List Value} {z : vw_C}
theorem v_fin (C : Ctx F cc nL own ret fr lo) {H : Heap} {locs : List Loc} {ls : Array Slot} {T : State} {vm₁ : Vm} {mk : MethodId} {av : List Value} {ig : Instr} (hP : va_P F.2.2.1 vcl (wld F.2.2.2.1 F.2.2.2.2.1 σ) H) (hS : va_S (wA F.2.2.2.2.1 F.1.2.2.2.2.heap.size) F.1.2.2.2.2.heap H locs) (hl : lv_has ls nL lv) (hT : T.heap = H)
    (X : Stand F.1.1 F.1.2.1 F.1.2.2.1 F.1.2.2.2.1 F.1.2.2.2.2 F.2.1.1 F.2.1.2.1 F.2.1.2.2.1 F.2.1.2.2.2.1 F.2.1.2.2.2.2 (T.setVm vm₁) locs 0 0) (hst : ∀ target, (∀ acts, Steps F.1.1.tables F.1.2.2.1 F.2.1.2.2.1 (doInvoke F.1.2.2.1 ((T.setVm vm₁).setTop (F0 F.2.1.1 pc ls st)) acts mk av.toArray).1 target) → ∀ g, g = F0 F.2.1.1 pc ls (av.reverse ++ st) → Steps F.1.1.tables F.1.2.2.1 F.2.1.2.2.1 (T.setTop g) target)
    (hn : F.1.2.2.2.2.methodNamed? y = some mk) (hm : MC own idx y bytes mL rt n) (hct : Ctr F.1.2.1 F.2.2.1 F.2.2.2.1 F.2.2.2.2.1 y bytes mL rt fr1 lo1 av σ ρc) (hR : fr1 + 1 ≤ fr ∧ 8 + (mL + 11) + lo1 ≤ lo) (hrc : rc ρc ≤ rc F.2.2.2.2.2 ∧ rsl ρc ≤ rsl F.2.2.2.2.2) (hw : (st.map fun v => v.category).sum ≤ 8) (hd : decode cc pc = .ok (ig, 3))
    (kr : ∀ v σ', ρc = (.inl v, σ') → V F nL σ' (pc + 3) lv (v.toList ++ st)) (kx : ∀ n σ', ρc = (.inr n, σ') → F.2.2.2.2.2 = ρc) :
    ∃ t, Steps F.1.1.tables F.1.2.2.1 F.2.1.2.2.1 (T.setTop (F0 F.2.1.1 pc ls (av.reverse ++ st))) t ∧ QF F.2.1.2.2.1 F.2.2.1 F.2.2.2.1 F.2.2.2.2.1 F.2.2.2.2.2 F.1.2.2.2.2 t := by
  have hRm : F.1.2.2.2.1 = rmOf fr lo F.2.2.2.2.2 := C.2.2.2.2.2.2.2.1
  have hWU : F.1.2.2.2.2.WarmedH (T.setVm vm₁).vm := X.warmed
  have hEnv : Env0 F.2.2.1 F.2.2.2.1 F.2.2.2.2.1 (T.setVm vm₁) (T.setVm vm₁).heap := by
    have h9 : (T.setVm vm₁).heap = H := hT
    rw [h9]
    exact C.env.step hWU hS
  have hW9 : 2 * (F0 F.2.1.1 pc ls st).monitorRoom + ((F0 F.2.1.1 pc ls st).stack.map fun v => v.category).sum ≤ 8 := lv_room hw
  obtain ⟨o, T', L, X', hL, ⟨ho, hP', hF1, hF2⟩, hret, hthr⟩ := ct_go X (g := F0 F.2.1.1 pc ls st) (ig := ig) rfl (by show ls.size = _; rw [hl.1, C.2.2.1]) (by rw [C.2.1]; exact hd) hW9 (X.named hn) hct
    (hEnv.2.1 _ hm.2.2.1 stb_code _) (hEnv.2.1 _ hm.2.1 stb_ini _) (by rw [hRm]; exact hR.1) (by rw [hRm]; exact hR.2) (by rw [hRm, Nat.zero_add]; exact hrc.1) (by rw [hRm, Nat.zero_add]; exact hrc.2) (by rw [show (T.setVm vm₁).heap = H from hT]; exact hP) hEnv C.2.2.2.2.2.2.2.2.2.1
  have hTH : (T.setVm vm₁).heap = H := hT
  rw [hTH] at hF1 hF2 hL
  have hS' := hS.next hF1 hF2 hL
  obtain ⟨oc, σ'⟩ := ρc
  cases oc with
  | inl v =>
    have ho' : o = .returned v := ho
    obtain ⟨t, a1, b1⟩ := kr v σ' rfl T'.heap (locs ++ L) ls hP' hS' hl T' rfl X'
    refine ⟨t, hst t (fun acts => ?_) _ rfl, b1⟩
    rw [doInvoke_state]
    exact (hret v ho').trans a1
  | inr n =>
    obtain ⟨q, ce, ho', hce, hcv, hcl⟩ := ho
    have hcl' : F.1.2.2.2.2.vm.findClass (xNm n) = some ce.cls := by rw [← hWU.alike.findClass]; exact hcl
    obtain ⟨t, a1, b1⟩ := QF.thr X' (kx n σ' rfl) (g := F0 F.2.1.1 pc ls st) rfl rfl rfl C.2.2.2.2.2.2.1 C.2.2.2.2.2.1 hce hcv hcl' hP' hS' (by exact Nat.le_refl 1) (by exact Nat.le_refl 6)
    refine ⟨t, hst t (fun acts => ?_) _ rfl, b1⟩
    rw [doInvoke_state]
    exact (hthr q ho').trans a1
theorem v_callV (C : Ctx F cc nL own ret fr lo) (hm : MC own idx y bytes mL rt n) (hi : Cond.instanceMethod y ∈ lw_tbl) (hs : Cond.selects y.cls y y ∈ lw_tbl) (h : Is k c) (hz : vcl[c]? = some z) (hzc : z.1 = y.cls) (hn : As.length = n) (hct : Ctr F.1.2.1 F.2.2.1 F.2.2.2.1 F.2.2.2.2.1 y bytes mL rt fr1 lo1 (.ref (fad F k) :: As) σ ρc) (hR : fr1 + 1 ≤ fr ∧ 8 + (mL + 11) + lo1 ≤ lo) (hrc : rc ρc ≤ rc F.2.2.2.2.2 ∧ rsl ρc ≤ rsl F.2.2.2.2.2) (hw : (st.map fun v => v.category).sum ≤ 8) (d : decode cc pc = .ok (.invokevirtual idx, 3))
    (kr : ∀ v σ', ρc = (.inl v, σ') → V F nL σ' (pc + 3) lv (v.toList ++ st)) (kx : ∀ n σ', ρc = (.inr n, σ') → F.2.2.2.2.2 = ρc) : V F nL σ pc lv (As.reverse ++ .ref (fad F k) :: st) := by
  intro H locs ls hP hS hl T hT X
  have hc100 : c < 100 := by
    have := (List.getElem?_eq_some_iff.mp hz).1
    have h12 : vcl.length = 12 := rfl
    omega
  obtain ⟨cellB, hcB, hoB, hclB⟩ := va_recv C.K hP hz (wld_obj (G := F.2.2.2.1) (ad := F.2.2.2.2.1) (σ := σ) h.1 h.2 hc100)
  rw [hzc] at hclB
  obtain ⟨mk, methM, hnamed, hmethM, hstM, habM⟩ := Cond.instanceMethod_spec (C.wds hi stb_inst)
  obtain ⟨methM', cM, hmethM', -, -, -, -, -, -, hsigM⟩ := Cond.code_spec hnamed (C.wds hm.2.2.1 stb_code)
  cases hmethM.symm.trans hmethM'
  obtain ⟨c2, r2, m2, q1, q2, q3, q4, kP, hkP, hkPi⟩ := Cond.selects_spec (C.wds hs stb_sel)
  cases hclB.symm.trans q1
  cases (State.methodFound?_of_named hnamed hm.2.2.2.1).symm.trans q2
  cases hnamed.symm.trans q3
  have hselP : selectMethod F.1.2.2.1.platform F.1.2.2.2.2.vm cellB.cls mk = .method mk := by rw [Launch.admits_selectMethod X.admits]; exact q4
  have hlen : As.length = methM.sig.parameters.length := by
    have h2 := hm.2.2.2.2
    rw [hsigM] at h2
    rw [hn]
    exact (Option.some.inj h2).symm
  have hrev : (.ref (fad F k) :: As : List Value).reverse ++ st = As.reverse ++ .ref (fad F k) :: st := by simp
  rw [← hrev]
  have hgo : ∃ vm', Stand F.1.1 F.1.2.1 F.1.2.2.1 F.1.2.2.2.1 F.1.2.2.2.2 F.2.1.1 F.2.1.2.1 F.2.1.2.2.1 F.2.1.2.2.2.1 F.2.1.2.2.2.2 (T.setVm vm') locs 0 0 ∧ ∀ target, (∀ acts, Steps F.1.1.tables F.1.2.2.1 F.2.1.2.2.1 (doInvoke F.1.2.2.1 ((T.setVm vm').setTop { F0 F.2.1.1 pc ls (As.reverse ++ .ref (fad F k) :: st) with stack := st }) acts mk (.ref (fad F k) :: As).toArray).1 target) → Steps F.1.1.tables F.1.2.2.1 F.2.1.2.2.1 (T.setTop (F0 F.2.1.1 pc ls (As.reverse ++ .ref (fad F k) :: st))) target := by
    rcases hm.1 with hlk | ⟨ho, hlk⟩
    · exact X.invokevirtual C.1 C.hown (C.wds hlk stb_ml) hnamed hmethM hstM hkP hkPi hm.2.2.2.1 (a := fad F k) (cell := cellB) (by rw [hT]; exact hcB) (fun z h => by rw [h] at hoB; cases hoB) hselP hmethM habM hkP hkPi (g := F0 F.2.1.1 pc ls (As.reverse ++ .ref (fad F k) :: st)) rfl (argsL := As) (rest := st) hlen rfl (by rw [C.2.1]; exact d)
    · exact X.invokevirtualNest C.1 C.hown (C.wds hlk rfl) hnamed hmethM hstM hkP hkPi hm.2.2.2.1 (a := fad F k) (cell := cellB) (by rw [hT]; exact hcB) (fun z h => by rw [h] at hoB; cases hoB) hselP hmethM habM hkP hkPi (g := F0 F.2.1.1 pc ls (As.reverse ++ .ref (fad F k) :: st)) rfl (argsL := As) (rest := st) hlen rfl (by rw [C.2.1]; exact d)
  obtain ⟨vm₁, X₁, hst⟩ := hgo
  exact v_fin C hP hS hl hT X₁ (fun target h g hg => by rw [hg, hrev]; exact hst target h) hnamed hm hct hR hrc hw d kr kx
theorem v_callS (C : Ctx F cc nL own ret fr lo) (hm : MC own idx y bytes mL rt n) (hs : Cond.static y ∈ lw_tbl) (hn : As.length = n) (hct : Ctr F.1.2.1 F.2.2.1 F.2.2.2.1 F.2.2.2.2.1 y bytes mL rt fr1 lo1 As σ ρc) (hR : fr1 + 1 ≤ fr ∧ 8 + (mL + 11) + lo1 ≤ lo) (hrc : rc ρc ≤ rc F.2.2.2.2.2 ∧ rsl ρc ≤ rsl F.2.2.2.2.2) (hw : (st.map fun v => v.category).sum ≤ 8) (d : decode cc pc = .ok (.invokestatic idx, 3))
    (kr : ∀ v σ', ρc = (.inl v, σ') → V F nL σ' (pc + 3) lv (v.toList ++ st)) (kx : ∀ n σ', ρc = (.inr n, σ') → F.2.2.2.2.2 = ρc) : V F nL σ pc lv (As.reverse ++ st) := by
  intro H locs ls hP hS hl T hT X
  obtain ⟨mk, hnamed⟩ := Cond.code_named (C.wds hm.2.2.1 stb_code)
  obtain ⟨methM, cM, hmethM, -, -, -, -, -, -, hsigM⟩ := Cond.code_spec hnamed (C.wds hm.2.2.1 stb_code)
  have hstatic : methM.isStatic = true := Cond.static_spec hnamed hmethM (C.wds hs stb_static)
  obtain ⟨kP, hkP, -⟩ := className_of_methodNamed hnamed
  have hinitP : kP.init = .initialized := Cond.initialized_spec (findClass_of_methodNamed hnamed) hkP (C.wds hm.2.1 stb_ini)
  have hlen : As.length = methM.sig.parameters.length := by
    have h2 := hm.2.2.2.2
    rw [hsigM] at h2
    rw [hn]
    exact (Option.some.inj h2).symm
  have hgo : ∃ vm', Stand F.1.1 F.1.2.1 F.1.2.2.1 F.1.2.2.2.1 F.1.2.2.2.2 F.2.1.1 F.2.1.2.1 F.2.1.2.2.1 F.2.1.2.2.2.1 F.2.1.2.2.2.2 (T.setVm vm') locs 0 0 ∧ ∀ target, (∀ acts, Steps F.1.1.tables F.1.2.2.1 F.2.1.2.2.1 (doInvoke F.1.2.2.1 ((T.setVm vm').setTop { F0 F.2.1.1 pc ls (As.reverse ++ st) with stack := st }) acts mk As.toArray).1 target) → Steps F.1.1.tables F.1.2.2.1 F.2.1.2.2.1 (T.setTop (F0 F.2.1.1 pc ls (As.reverse ++ st))) target := by
    rcases hm.1 with hlk | ⟨ho, hlk⟩
    · exact X.invokestatic C.1 C.hown (C.wds hlk stb_ml) hnamed hmethM hstatic hkP hinitP hm.2.2.2.1 (g := F0 F.2.1.1 pc ls (As.reverse ++ st)) rfl (argsL := As) (rest := st) hlen rfl (by rw [C.2.1]; exact d)
    · exact X.invokestaticNest C.1 C.hown (C.wds hlk rfl) hnamed hmethM hstatic hkP hinitP hm.2.2.2.1 (g := F0 F.2.1.1 pc ls (As.reverse ++ st)) rfl (argsL := As) (rest := st) hlen rfl (by rw [C.2.1]; exact d)
  obtain ⟨vm₁, X₁, hst⟩ := hgo
  exact v_fin C hP hS hl hT X₁ (fun target h g hg => by rw [hg]; exact hst target h) hnamed hm hct hR hrc hw d kr kx
end JC
end
section
/-! METHODS: a contract out of a walk; calls in walks; throws; Math -/
def MV (own : String) (idx : Nat) (y : MethodName) (bytes : ByteArray) (mL : Nat) (ret : Option FieldType) (n c : Nat) : Prop := MC own idx y bytes mL ret n ∧ Cond.instanceMethod y ∈ lw_tbl ∧ Cond.selects y.cls y y ∈ lw_tbl ∧ ∃ z, vcl[c]? = some z ∧ z.1 = y.cls
def MS (own : String) (idx : Nat) (y : MethodName) (bytes : ByteArray) (mL : Nat) (ret : Option FieldType) (n : Nat) : Prop := MC own idx y bytes mL ret n ∧ Cond.static y ∈ lw_tbl
theorem ctr_of {l : Launch} {D : va_G} {G : GC} {ad : Nat → Nat} {y : MethodName} {bytes : ByteArray} {mL : Nat} {ret : Option FieldType} {fr lo : Nat} {av : List Value} {σ : Mem} {ρ : Rs} (hy : plainName y.cls = true) (hent : (lg_sl av).length ≤ mL)
    (body : ∀ F : Fx, F.1.2.1 = l → F.2.2 = (D, G, ad, ρ) → Ctx F bytes mL y.cls ret fr lo → V F mL σ 0 (lv_args 0 av) []) : Ctr l D G ad y bytes mL ret fr lo av σ ρ := by
  intro sz hnt
  refine MetFree.of_bodyS (code := bytes) (maxLocals := mL) (ret := ret) hy ?_ ?_
  · intro args s m h hn
    obtain ⟨meth, c, h1, h2, h3, h4, h5, h6, -, -⟩ := Cond.code_spec hn (atoms_spec (ws := [.code y bytes mL ret]) h _ List.mem_cons_self)
    exact ⟨meth, c, h1, h2, h3, h4, h5, h6⟩
  · intro p e s m args below meth c s₁ B hml hPre _
    obtain ⟨rfl, rfl, hP, hEnv⟩ := hPre
    have htab : ∀ x ∈ c.exceptionTable.toList, False := by
      obtain ⟨meth9, c9, h1, h2, -, -, -, -, h7, -⟩ := Cond.code_spec B.named (atoms_spec (ws := [.code y bytes mL ret]) B.pre _ List.mem_cons_self)
      cases Option.some.inj (h1.symm.trans B.method)
      cases Option.some.inj (h2.symm.trans (Stand.of_body B).code)
      intro x hx
      rw [Array.isEmpty_iff.mp h7] at hx
      cases hx
    have hh0 : s₁.heap = s.heap := by rw [B.state]; rfl
    have hV := body ((p, l, e, rmOf fr lo ρ, s), (m, av.toArray, below, meth, c), (D, G, ad, ρ)) rfl rfl ⟨B.exec, B.bytes, hml, findClass_of_methodNamed B.named, B.returns, B.notSynchronized, htab, rfl, hEnv, hnt, σ, hP⟩
    obtain ⟨t, a1, o, b1, b2, b3, b4⟩ := hV s.heap [] _ hP va_S.rf (lv_entry av hent) s₁ hh0 (Stand.of_body B)
    exact ⟨t, o, by rw [lg_entry_eq]; exact a1, b1, b2, b3, b4⟩
theorem ctr_J {β : Type} {cv : β → Option Rs} {E : β} {l : Launch} {D : va_G} {G : GC} {ad : Nat → Nat} {y : MethodName} {bytes : ByteArray} {mL : Nat} {ret : Option FieldType} {fr lo : Nat} {av : List Value} {σ : Mem} {ρ : Rs} (hy : plainName y.cls = true) (hent : (lg_sl av).length ≤ mL) (hE : cv E = some ρ)
    (body : ∀ F : Fx, ad = fad F → Ctx F bytes mL y.cls ret fr lo → J F mL cv E σ 0 (lv_args 0 av) []) : Ctr l D G ad y bytes mL ret fr lo av σ ρ :=
  ctr_of hy hent fun F h1 h2 C => body F (by rw [fad, h2]) C (by rw [hE, h2])
section JM
variable {β : Type} {F : Fx} {nL : Nat} {cv : β → Option Rs} {E : β} {σ σ1 : Mem} {pc : Nat} {lv : List (Nat × Value)} {st stk : List Value} {cc : ByteArray} {own : String} {ret rt : Option FieldType} {fr lo fr1 lo1 : Nat} {k c idx n mL : Nat} {y : MethodName} {bytes : ByteArray} {r x z : Int32}
abbrev CtrF (F : Fx) (y : MethodName) (bytes : ByteArray) (mL : Nat) (rt : Option FieldType) (fr1 lo1 : Nat) (av : List Value) (σ : Mem) (ρ : Rs) : Prop := Ctr F.1.2.1 F.2.2.1 F.2.2.2.1 F.2.2.2.2.1 y bytes mL rt fr1 lo1 av σ ρ
theorem j_callVi (C : Ctx F cc nL own ret fr lo) (hm : MV own idx y bytes mL rt n c) (As : List Value) (st : List Value) (h : Is k c) (hct : CtrF F y bytes mL rt fr1 lo1 (.ref (fad F k) :: As) σ (.inl (some (.int r)), σ1)) (hs : stk = As.reverse ++ .ref (fad F k) :: st) (hn : As.length = n) (hR : fr1 + 1 ≤ fr ∧ 8 + (mL + 11) + lo1 ≤ lo) (hw : (st.map fun v => v.category).sum ≤ 8) (d : decode cc pc = .ok (.invokevirtual idx, 3)) (K : J F nL cv E σ1 (pc + 3) lv (.int r :: st)) : J F nL cv E σ pc lv stk := by
  obtain ⟨hmc, hi, hse, w, hw1, hw2⟩ := hm
  subst hs
  exact fun hE => v_callV C hmc hi hse h hw1 hw2 hn hct hR ⟨Nat.zero_le _, Nat.zero_le _⟩ hw d (fun v σ' h => by cases h; exact K hE) (fun n σ' h => by cases h)
theorem j_callVv (C : Ctx F cc nL own ret fr lo) (hm : MV own idx y bytes mL rt n c) (As : List Value) (st : List Value) (h : Is k c) (hct : CtrF F y bytes mL rt fr1 lo1 (.ref (fad F k) :: As) σ (.inl none, σ1)) (hs : stk = As.reverse ++ .ref (fad F k) :: st) (hn : As.length = n) (hR : fr1 + 1 ≤ fr ∧ 8 + (mL + 11) + lo1 ≤ lo) (hw : (st.map fun v => v.category).sum ≤ 8) (d : decode cc pc = .ok (.invokevirtual idx, 3)) (K : J F nL cv E σ1 (pc + 3) lv st) : J F nL cv E σ pc lv stk := by
  obtain ⟨hmc, hi, hse, w, hw1, hw2⟩ := hm
  subst hs
  exact fun hE => v_callV C hmc hi hse h hw1 hw2 hn hct hR ⟨Nat.zero_le _, Nat.zero_le _⟩ hw d (fun v σ' h => by cases h; exact K hE) (fun n σ' h => by cases h)
theorem j_callVx {e : Nat} (C : Ctx F cc nL own ret fr lo) (hm : MV own idx y bytes mL rt n c) (As : List Value) (st : List Value) (h : Is k c) (hct : CtrF F y bytes mL rt fr1 lo1 (.ref (fad F k) :: As) σ (.inr e, σ1)) (hs : stk = As.reverse ++ .ref (fad F k) :: st) (hn : As.length = n) (hR : fr1 + 1 ≤ fr ∧ 8 + (mL + 11) + lo1 ≤ lo) (hw : (st.map fun v => v.category).sum ≤ 8) (d : decode cc pc = .ok (.invokevirtual idx, 3)) (hx : ∀ ρ, cv E = some ρ → ρ = (.inr e, σ1)) : J F nL cv E σ pc lv stk := by
  obtain ⟨hmc, hi, hse, w, hw1, hw2⟩ := hm
  subst hs
  intro hE
  have hρ := hx _ hE
  exact v_callV C hmc hi hse h hw1 hw2 hn hct hR (by rw [hρ]; exact ⟨Nat.le_refl _, Nat.le_refl _⟩) hw d (fun v σ' h => by cases h) (fun n σ' h => hρ)
theorem j_callSi (C : Ctx F cc nL own ret fr lo) (hm : MS own idx y bytes mL rt n) (As : List Value) (st : List Value) (hct : CtrF F y bytes mL rt fr1 lo1 As σ (.inl (some (.int r)), σ1)) (hs : stk = As.reverse ++ st) (hn : As.length = n) (hR : fr1 + 1 ≤ fr ∧ 8 + (mL + 11) + lo1 ≤ lo) (hw : (st.map fun v => v.category).sum ≤ 8) (d : decode cc pc = .ok (.invokestatic idx, 3)) (K : J F nL cv E σ1 (pc + 3) lv (.int r :: st)) : J F nL cv E σ pc lv stk := by
  subst hs
  exact fun hE => v_callS C hm.1 hm.2 hn hct hR ⟨Nat.zero_le _, Nat.zero_le _⟩ hw d (fun v σ' h => by cases h; exact K hE) (fun n σ' h => by cases h)
theorem j_callSv (C : Ctx F cc nL own ret fr lo) (hm : MS own idx y bytes mL rt n) (As : List Value) (st : List Value) (hct : CtrF F y bytes mL rt fr1 lo1 As σ (.inl none, σ1)) (hs : stk = As.reverse ++ st) (hn : As.length = n) (hR : fr1 + 1 ≤ fr ∧ 8 + (mL + 11) + lo1 ≤ lo) (hw : (st.map fun v => v.category).sum ≤ 8) (d : decode cc pc = .ok (.invokestatic idx, 3)) (K : J F nL cv E σ1 (pc + 3) lv st) : J F nL cv E σ pc lv stk := by
  subst hs
  exact fun hE => v_callS C hm.1 hm.2 hn hct hR ⟨Nat.zero_le _, Nat.zero_le _⟩ hw d (fun v σ' h => by cases h; exact K hE) (fun n σ' h => by cases h)
theorem j_callSx {e : Nat} (C : Ctx F cc nL own ret fr lo) (hm : MS own idx y bytes mL rt n) (As : List Value) (st : List Value) (hct : CtrF F y bytes mL rt fr1 lo1 As σ (.inr e, σ1)) (hs : stk = As.reverse ++ st) (hn : As.length = n) (hR : fr1 + 1 ≤ fr ∧ 8 + (mL + 11) + lo1 ≤ lo) (hw : (st.map fun v => v.category).sum ≤ 8) (d : decode cc pc = .ok (.invokestatic idx, 3)) (hx : ∀ ρ, cv E = some ρ → ρ = (.inr e, σ1)) : J F nL cv E σ pc lv stk := by
  subst hs
  intro hE
  have hρ := hx _ hE
  exact v_callS C hm.1 hm.2 hn hct hR (by rw [hρ]; exact ⟨Nat.le_refl _, Nat.le_refl _⟩) hw d (fun v σ' h => by cases h) (fun n σ' h => hρ)
/-- Math -/
def imax (x y : Int32) : Int32 := if x < y then y else x
def imin (x y : Int32) : Int32 := if y < x then y else x
def iabs (x : Int32) : Int32 := if 0 ≤ x then x else 0 - x
def MM (own : String) (idx : Nat) (y : MethodName) (bytes : ByteArray) (n : Nat) : Prop := Cond.methodLink own idx y ∈ lw_tbl ∧ Cond.static y ∈ lw_tbl ∧ Cond.initialized "java/lang/Math" ∈ lw_tbl ∧ Cond.code y bytes n (some .int) ∈ lw_tbl
theorem j_max {y : Int32} (C : Ctx F cc nL own ret fr lo) (hm : MM own idx Lib.Math.max.name Lib.Math.max.code 2) (hR : 1 ≤ fr ∧ (st.map fun v => v.category).sum + 13 ≤ lo) (d : decode cc pc = .ok (.invokestatic idx, 3)) (K : J F nL cv E σ (pc + 3) lv (.int (imax x y) :: st)) : J F nL cv E σ pc lv (.int y :: .int x :: st) := by
  intro hE H locs ls hP hS hl
  have hRm : F.1.2.2.2.1 = rmOf fr lo F.2.2.2.2.2 := C.2.2.2.2.2.2.2.1
  exact va_mmax C.1 C.2.1 (by rw [C.2.2.1, hl.1]) C.hown (C.wds hm.1 stb_ml) (C.wds hm.2.1 stb_static) (C.wds hm.2.2.1 stb_ini) (C.wds hm.2.2.2 stb_code) (by rw [hRm]; exact hR.1) (by rw [hRm]; exact hR.2) (Nat.zero_le _) (Nat.zero_le _) d (K hE H locs ls hP hS hl)
theorem j_min {y : Int32} (C : Ctx F cc nL own ret fr lo) (hm : MM own idx Lib.Math.min.name Lib.Math.min.code 2) (hR : 1 ≤ fr ∧ (st.map fun v => v.category).sum + 13 ≤ lo) (d : decode cc pc = .ok (.invokestatic idx, 3)) (K : J F nL cv E σ (pc + 3) lv (.int (imin x y) :: st)) : J F nL cv E σ pc lv (.int y :: .int x :: st) := by
  intro hE H locs ls hP hS hl
  have hRm : F.1.2.2.2.1 = rmOf fr lo F.2.2.2.2.2 := C.2.2.2.2.2.2.2.1
  exact va_mmin C.1 C.2.1 (by rw [C.2.2.1, hl.1]) C.hown (C.wds hm.1 stb_ml) (C.wds hm.2.1 stb_static) (C.wds hm.2.2.1 stb_ini) (C.wds hm.2.2.2 stb_code) (by rw [hRm]; exact hR.1) (by rw [hRm]; exact hR.2) (Nat.zero_le _) (Nat.zero_le _) d (K hE H locs ls hP hS hl)
theorem j_abs (C : Ctx F cc nL own ret fr lo) (hm : MM own idx Lib.Math.abs.name Lib.Math.abs.code 1) (hR : 1 ≤ fr ∧ (st.map fun v => v.category).sum + 13 ≤ lo) (d : decode cc pc = .ok (.invokestatic idx, 3)) (K : J F nL cv E σ (pc + 3) lv (.int (iabs x) :: st)) : J F nL cv E σ pc lv (.int x :: st) := by
  intro hE H locs ls hP hS hl
  have hRm : F.1.2.2.2.1 = rmOf fr lo F.2.2.2.2.2 := C.2.2.2.2.2.2.2.1
  exact va_mabs C.1 C.2.1 (by rw [C.2.2.1, hl.1]) C.hown (C.wds hm.1 stb_ml) (C.wds hm.2.1 stb_static) (C.wds hm.2.2.1 stb_ini) (C.wds hm.2.2.2 stb_code) (by rw [hRm]; exact hR.1) (by rw [hRm]; exact hR.2) (Nat.zero_le _) (Nat.zero_le _) d (K hE H locs ls hP hS hl)
theorem j_ldc (C : Ctx F cc nL own ret fr lo) (hm : Cond.constant own idx z ∈ lw_tbl) (d : decode cc pc = .ok (.ldc idx, 2)) (K : J F nL cv E σ (pc + 2) lv (.int z :: st)) : J F nL cv E σ pc lv st := fun hE H locs ls hP hS hl => lv_ldc C.1 C.2.1 C.hown (C.wds hm (by first | rfl | simp [stb, Cond.onTables, Cond.keeps, Cond.steady])) d (K hE H locs ls hP hS hl)
end JM
end
section
/-! THROWS -/
section TH
variable {p : Program} {l : Launch} {e : Env} {R R' : Room} {s : State} {m : MethodId} {args : Array Value} {below : List Frame} {meth : Method} {c : Code} {T : State} {locs : List Loc} {cells slots : Nat}
/-- where the walk stands now, told as if it began here -/
abbrev anew (s T : State) (m : MethodId) (args : Array Value) (below : List Frame) : State := (T.setVm s.vm).setFrames (.invoking m args :: below)
theorem st_anew (X : Stand p l e R s m args below meth c T locs cells slots) (hf : R'.frames ≤ R.frames) (hl : R'.locals ≤ R.locals) (hc : cells + R'.cells ≤ R.cells) (hs : slots + R'.slots ≤ R.slots) : Stand p l e R' (anew s T m args below) m args below meth c T [] 0 0 := by
  have htop : (T.setVm s.vm).topJava?.isSome := X.here.top
  have hcur := State.cur_lt_of_top htop
  have hF : (anew s T m args below).frames = .invoking m args :: below := State.frames_setFrames _ hcur
  obtain ⟨g₀, hg0⟩ := Option.isSome_iff_exists.mp htop
  obtain ⟨r, hr⟩ := State.topJava?_eq_some.mp hg0
  have hlim : e.platform.stackLimits (T.setVm s.vm).me = e.platform.stackLimits s.me := X.limits
  have hbyt : (T.setVm s.vm).me.stackBytes = s.me.stackBytes := X.bytes
  have hlocs : (anew s T m args below).localsInUse = s.localsInUse := by rw [State.localsInUse_invoking hF (meth := meth) (c := c) X.method X.code, State.localsInUse_invoking X.frames X.method X.code]
  have hroom : (anew s T m args below).hasRoom e.platform R' = true := by
    have h := X.room
    have q1 := X.heapSize
    have q2 := X.used
    simp only [State.hasRoom, Bool.and_eq_true, decide_eq_true_eq] at h ⊢
    obtain ⟨⟨⟨⟨h1, h2, h3, h4, h5, h6⟩, h7⟩, h8⟩, -⟩ := h
    rw [X.frames, List.length_cons] at h2 h3
    simp only [hF, hlocs, List.length_cons, State.stackLimits_setFrames, State.stackBytes_setFrames, hlim, hbyt]
    refine ⟨⟨⟨⟨by omega, by omega, by omega, by omega, by omega, h6⟩, ?_⟩, ?_⟩, X.book⟩
    · show T.heap.size + R'.cells ≤ e.platform.maxCells
      omega
    · show T.slotsUsed + R'.slots ≤ e.platform.maxSlots
      omega
  have hdrop : (T.heap.toList.drop T.heap.size) = [] := List.drop_eq_nil_of_le (Nat.le_of_eq Array.length_toList)
  refine ⟨X.admits, X.cas, X.clock, hF, hroom, X.hears, X.method, X.code, X.here, X.tail, X.warmed, by rw [State.stackLimits_setFrames]; rfl, by rw [State.stackBytes_setFrames]; rfl, ?_, Nat.le_refl _, Nat.le_refl _, ?_, ?_, fun a c9 h9 => ⟨c9, h9, rfl, rfl, fun _ _ => rfl⟩⟩
  · obtain ⟨z, hz, -⟩ := State.frames_cons hr
    show T.setVm s.vm = { ((T.setVm s.vm).setFrames (.invoking m args :: below)).setFrames (T.setVm s.vm).frames with heap := T.heap, slotsUsed := T.slotsUsed }
    rw [State.setFrames_setFrames, State.setFrames_self hz]
    rfl
  · show T.slotsUsed = T.slotsUsed + ((T.heap.toList.drop T.heap.size).map (·.slots.size)).sum
    rw [hdrop]; rfl
  · show ((T.heap.toList.drop T.heap.size).map (·.slots.size)).sum ≤ 0
    rw [hdrop]; exact Nat.le_refl _
end TH
theorem nb_keep {s U : State} {k n : Nat} (h : s.sameButNew ({ U with vm := s.vm } : State) [] k n) : s.heap.size ≤ U.heap.size ∧ ∀ q : Nat, q < s.heap.size → U.heap[q]? = s.heap[q]? := by
  obtain ⟨-, h2, -, -, -, h6⟩ := h
  refine ⟨h2, fun q hq => ?_⟩
  obtain ⟨c9, e1, e2, -, e4⟩ := h6 q _ (Array.getElem?_eq_getElem hq)
  have hs : c9.slots = (s.heap[q]).slots := Array.ext_getElem? fun i => e4 i (by simp)
  have h9 : c9 = s.heap[q] := by rw [hs] at e2; exact e2
  have e5 : U.heap[q]? = some c9 := e1
  rw [e5, h9, Array.getElem?_eq_getElem hq]
abbrev xSup : List String := ["java/lang/RuntimeException", "java/lang/Exception"]
abbrev xSt : List Cond := [.isRef (.static "java/lang/Throwable" "UNASSIGNED_STACK" "[Ljava/lang/StackTraceElement;"), .isRef (.static "java/lang/Throwable" "SUPPRESSED_SENTINEL" "Ljava/util/List;"), .laysStatic "java/lang/Throwable" "UNASSIGNED_STACK" "[Ljava/lang/StackTraceElement;", .laysStatic "java/lang/Throwable" "SUPPRESSED_SENTINEL" "Ljava/util/List;"]
def OX (own : String) (ik ic n : Nat) : Prop := Cond.classLink own ik (xNm n) ∈ lw_tbl ∧ Cond.instantiable (xNm n) 6 ∈ lw_tbl ∧ Cond.initialized (xNm n) ∈ lw_tbl ∧ Bundle.fit (xNm n) = true ∧ ∀ a ∈ Bundle.ownAtoms own ic (xNm n) xSup, (a ∈ lw_tbl ∧ stb a = true) ∨ a ∈ xSt
section JX
variable {β : Type} {F : Fx} {nL : Nat} {cv : β → Option Rs} {E : β} {σ : Mem} {pc : Nat} {lv : List (Nat × Value)} {st : List Value} {cc : ByteArray} {own tx : String} {ret : Option FieldType} {fr lo n ik is ic : Nat}
theorem j_throw (C : Ctx F cc nL own ret fr lo) (ho : OX own ik ic n) (hstr : (own, is, tx) ∈ strL) (hfr : 5 < fr) (hlo : (st.map fun v => v.category).sum + 82 ≤ lo)
    (d0 : decode cc pc = .ok (.new ik, 3)) (d3 : decode cc (pc + 3) = .ok (.dup, 1)) (d4 : decode cc (pc + 4) = .ok (.ldc is, 2)) (d6 : decode cc (pc + 6) = .ok (.invokespecial ic, 3)) (d9 : decode cc (pc + 9) = .ok (.athrow, 1)) (hx : ∀ ρ, cv E = some ρ → ρ = (.inr n, σ)) : J F nL cv E σ pc lv st := by
  intro hE H locs ls hP hS hl T hT X
  have hρ := hx _ hE
  have hRm : F.1.2.2.2.1 = rmOf fr lo F.2.2.2.2.2 := C.2.2.2.2.2.2.2.1
  have hRc : F.1.2.2.2.1.cells = 1 := by rw [hRm, hρ]; rfl
  have hRs : F.1.2.2.2.1.slots = 6 := by rw [hRm, hρ]; rfl
  have hRf : F.1.2.2.2.1.frames = fr := by rw [hRm]; rfl
  have hRl : F.1.2.2.2.1.locals = lo := by rw [hRm]; rfl
  obtain ⟨w1, w2, w3, hfit, hat⟩ := ho
  have hnt : F.1.2.2.1.platform.stackTraces = false := (show F.1.2.2.1.platform.stackTraces = F.1.2.1.stackTraces by rw [X.admits.platform]).trans C.2.2.2.2.2.2.2.2.2.1
  have Y := st_anew X (R' := { frames := fr, locals := lo, cells := 1, slots := 6 }) (by rw [hRf]; exact Nat.le_refl _) (by rw [hRl]; exact Nat.le_refl _) (by rw [hRc]; exact Nat.le_refl _) (by rw [hRs]; exact Nat.le_refl _)
  obtain ⟨s', hs'⟩ : ∃ z, z = anew F.1.2.2.2.2 T F.2.1.1 F.2.1.2.1 F.2.1.2.2.1 := ⟨_, rfl⟩
  rw [← hs'] at Y
  have hvm : s'.vm = F.1.2.2.2.2.vm := by rw [hs']; rfl
  have hhp : s'.heap = H := by rw [hs']; exact hT
  have hWs : F.1.2.2.2.2.WarmedH s'.vm := by rw [hvm]; exact State.WarmedH.refl _
  have hE' : Env0 F.2.2.1 F.2.2.2.1 F.2.2.2.2.1 s' s'.heap := by rw [hhp]; exact C.env.step hWs hS
  have hatoms : ∀ a ∈ Bundle.ownAtoms own ic (xNm n) xSup, a.before F.2.1.2.1 s' = true := by
    obtain ⟨a1, cl1, g1, -, -, g4⟩ := hE'.2.2.1
    obtain ⟨a2, cl2, g5, -, -, g8⟩ := hE'.2.2.2.1
    intro a ha
    rcases hat a ha with ⟨m1, m2⟩ | m1
    · exact hE'.2.1 a m1 m2 _
    · simp only [xSt, List.mem_cons, List.not_mem_nil, or_false] at m1
      rcases m1 with rfl | rfl | rfl | rfl
      · exact (g4 s' _ (Vm.Alike.refl _) g1).1
      · exact (g8 s' _ (Vm.Alike.refl _) g5).1
      · exact (g4 s' _ (Vm.Alike.refl _) g1).2
      · exact (g8 s' _ (Vm.Alike.refl _) g5).2
  have hown' : s'.vm.findClass own = some F.2.1.1.cls := by rw [hvm]; exact C.hown
  have hi2 := hE'.2.1 _ w2 (by first | rfl | simp [stb, Cond.onTables, Cond.keeps, Cond.steady]) F.2.1.2.1
  obtain ⟨cC, kC0, hfc, hkC0, -⟩ := Cond.instantiable_spec hi2
  obtain ⟨sa, hsa⟩ := hE'.2.2.2.2.1 _ hstr
  have key : W F.1.1 F.1.2.1 F.1.2.2.1 { frames := fr, locals := lo, cells := 1, slots := 6 } s' F.2.1.1 F.2.1.2.1 F.2.1.2.2.1 F.2.1.2.2.2.1 F.2.1.2.2.2.2 H [] 0 0 (fun U => U.status = .running ∧ Ended U F.2.1.2.2.1 (.threw H.size) ∧ s'.WarmedH U.vm ∧ s'.sameButNew ({ U with vm := s'.vm } : State) [] 1 6 ∧ ∃ ce, U.heap[H.size]? = some ce ∧ ce.vm = .none ∧ s'.vm.findClass (xNm n) = some ce.cls) (F0 F.2.1.1 pc ls st) := by
    refine W.newcK C.1 C.2.1 hown' (hE'.2.1 _ w1 (by first | rfl | simp [stb, Cond.onTables, Cond.keeps, Cond.steady]) _) hi2 (hE'.2.1 _ w3 stb_ini _) (g := F0 F.2.1.1 pc ls st) rfl d0 (Nat.le_refl _) (Nat.le_refl _) hfc rfl (fun H1 kC hkC hcell hsz hold => ?_)
    refine lv_dup C.1 C.2.1 d3 rfl ?_
    refine va_ldcS C.1 C.2.1 hown' hsa d4 ?_
    intro T2 hT2 X2
    have hrest : 2 * (F0 F.2.1.1 (pc + 6) ls (.ref sa :: .ref H.size :: .ref H.size :: st)).monitorRoom + ((Value.ref H.size :: st).map fun v => v.category).sum + (13 * (xSup.length + 1) + 42) ≤ lo := by
      show 2 * 0 + (1 + (st.map fun v => v.category).sum) + (13 * 3 + 42) ≤ lo
      omega
    have hcell' : T2.heap[H.size]? = some (freshCell cC kC) := by rw [hT2]; exact hcell
    have hsz' : (F0 F.2.1.1 (pc + 6) ls (.ref sa :: .ref H.size :: .ref H.size :: st)).locals.size = F.2.1.2.2.2.2.maxLocals := by rw [C.2.2.1]; exact hl.1
    obtain ⟨U, st1, hrun, hend, hWU, hsame, ce, hce, hoc⟩ := X2.ctorThrowS C.1 hnt hown' hfit (by decide +kernel) hatoms (fun x hx => by cases hx) (a := H.size) hfc hkC hcell' (by rw [hhp]; exact Nat.le_refl _) (msg := .ref sa) rfl (g := F0 F.2.1.1 (pc + 6) ls (.ref sa :: .ref H.size :: .ref H.size :: st)) rfl hsz' rfl rfl (rest := st) (by rfl) (by rw [C.2.1]; exact d6) (by rw [C.2.1]; exact d9) (fun x hx => (C.2.2.2.2.2.2.1 x hx).elim) hfr hrest C.2.2.2.2.2.1
    exact ⟨U, st1, hrun, hend, hWU, hsame, ce, hce, hoc.vm, hoc.cls⟩
  obtain ⟨t, a1, hrun, hend, hWt, hsame, ce, hce, hcv, hcl⟩ := key T hT Y
  obtain ⟨z1, z2⟩ := nb_keep hsame
  rw [hhp] at z1 z2
  refine ⟨t, a1, .threw H.size, hrun, hend, ?_, locs ++ [], ⟨State.WarmedH.trans hWs hWt, ?_⟩, fun q hq => hS.2.2 q (by simpa using hq)⟩
  · rw [hρ]
    refine ⟨⟨H.size, ce, rfl, hce, hcv, by rw [← hvm]; exact hcl⟩, hP.kept fun k q hq => z2 q.1 (hP k q hq).lt, ?_, fun q h1 h2 => ?_⟩
    · exact Nat.le_trans hS.1 z1
    · rw [z2 q (Nat.lt_of_lt_of_le h1 hS.1)]
      exact hS.2.1 q h1 h2
  · have h2 : (T.setVm F.1.2.2.2.2.vm).sameButNew ({ t with vm := F.1.2.2.2.2.vm } : State) [] 1 6 := by
      rw [hs'] at hsame
      obtain ⟨e1, e2⟩ := hsame
      refine ⟨?_, e2⟩
      refine e1.trans ?_
      show _ = { (T.setVm F.1.2.2.2.2.vm).setFrames t.frames with heap := t.heap, slotsUsed := t.slotsUsed }
      rw [← State.setFrames_setFrames (T.setVm F.1.2.2.2.2.vm) (.invoking F.2.1.1 F.2.1.2.1 :: F.2.1.2.2.1)]
      rfl
    have h3 := X.same.trans h2
    rw [hρ]
    exact h3
theorem ldcSW {p : Program} {l : Launch} {e : Env} {R : Room} {s : State} {m : MethodId} {args : Array Value} {below : List Frame} {meth : Method} {c : Code} {H : Heap} {locs : List Loc} {cells slots : Nat} {Q : State → Prop} {cc : ByteArray} {pc : Nat} {ls : Array Slot} {rest : List Value} (hexec : p.tables.exec = Jvm.exec) (hb : c.code = cc) {own tx : String} {index q : Nat} (hown : s.vm.findClass own = some m.cls) (hZ : vk_R own index tx q s) (hdg : decode cc pc = .ok (.ldc_w index, 3))
    (k : W p l e R s m args below meth c H locs cells slots Q (F0 m (pc + 3) ls (.ref q :: rest))) : W p l e R s m args below meth c H locs cells slots Q (F0 m pc ls rest) := by
  intro T hT X
  obtain ⟨t, a1, b1⟩ := k T hT X
  exact ⟨t, X.ldcStringW hexec hown (text := tx) (a := q) hZ.1 hZ.2 (g := F0 m pc ls rest) rfl (by rw [hb]; exact hdg) t a1, b1⟩
theorem j_throwW (C : Ctx F cc nL own ret fr lo) (ho : OX own ik ic n) (hstr : (own, is, tx) ∈ strL) (hfr : 5 < fr) (hlo : (st.map fun v => v.category).sum + 82 ≤ lo)
    (d0 : decode cc pc = .ok (.new ik, 3)) (d3 : decode cc (pc + 3) = .ok (.dup, 1)) (d4 : decode cc (pc + 4) = .ok (.ldc_w is, 3)) (d6 : decode cc (pc + 7) = .ok (.invokespecial ic, 3)) (d9 : decode cc (pc + 10) = .ok (.athrow, 1)) (hx : ∀ ρ, cv E = some ρ → ρ = (.inr n, σ)) : J F nL cv E σ pc lv st := by
  intro hE H locs ls hP hS hl T hT X
  have hρ := hx _ hE
  have hRm : F.1.2.2.2.1 = rmOf fr lo F.2.2.2.2.2 := C.2.2.2.2.2.2.2.1
  have hRc : F.1.2.2.2.1.cells = 1 := by rw [hRm, hρ]; rfl
  have hRs : F.1.2.2.2.1.slots = 6 := by rw [hRm, hρ]; rfl
  have hRf : F.1.2.2.2.1.frames = fr := by rw [hRm]; rfl
  have hRl : F.1.2.2.2.1.locals = lo := by rw [hRm]; rfl
  obtain ⟨w1, w2, w3, hfit, hat⟩ := ho
  have hnt : F.1.2.2.1.platform.stackTraces = false := (show F.1.2.2.1.platform.stackTraces = F.1.2.1.stackTraces by rw [X.admits.platform]).trans C.2.2.2.2.2.2.2.2.2.1
  have Y := st_anew X (R' := { frames := fr, locals := lo, cells := 1, slots := 6 }) (by rw [hRf]; exact Nat.le_refl _) (by rw [hRl]; exact Nat.le_refl _) (by rw [hRc]; exact Nat.le_refl _) (by rw [hRs]; exact Nat.le_refl _)
  obtain ⟨s', hs'⟩ : ∃ z, z = anew F.1.2.2.2.2 T F.2.1.1 F.2.1.2.1 F.2.1.2.2.1 := ⟨_, rfl⟩
  rw [← hs'] at Y
  have hvm : s'.vm = F.1.2.2.2.2.vm := by rw [hs']; rfl
  have hhp : s'.heap = H := by rw [hs']; exact hT
  have hWs : F.1.2.2.2.2.WarmedH s'.vm := by rw [hvm]; exact State.WarmedH.refl _
  have hE' : Env0 F.2.2.1 F.2.2.2.1 F.2.2.2.2.1 s' s'.heap := by rw [hhp]; exact C.env.step hWs hS
  have hatoms : ∀ a ∈ Bundle.ownAtoms own ic (xNm n) xSup, a.before F.2.1.2.1 s' = true := by
    obtain ⟨a1, cl1, g1, -, -, g4⟩ := hE'.2.2.1
    obtain ⟨a2, cl2, g5, -, -, g8⟩ := hE'.2.2.2.1
    intro a ha
    rcases hat a ha with ⟨m1, m2⟩ | m1
    · exact hE'.2.1 a m1 m2 _
    · simp only [xSt, List.mem_cons, List.not_mem_nil, or_false] at m1
      rcases m1 with rfl | rfl | rfl | rfl
      · exact (g4 s' _ (Vm.Alike.refl _) g1).1
      · exact (g8 s' _ (Vm.Alike.refl _) g5).1
      · exact (g4 s' _ (Vm.Alike.refl _) g1).2
      · exact (g8 s' _ (Vm.Alike.refl _) g5).2
  have hown' : s'.vm.findClass own = some F.2.1.1.cls := by rw [hvm]; exact C.hown
  have hi2 := hE'.2.1 _ w2 (by first | rfl | simp [stb, Cond.onTables, Cond.keeps, Cond.steady]) F.2.1.2.1
  obtain ⟨cC, kC0, hfc, hkC0, -⟩ := Cond.instantiable_spec hi2
  obtain ⟨sa, hsa⟩ := hE'.2.2.2.2.1 _ hstr
  have key : W F.1.1 F.1.2.1 F.1.2.2.1 { frames := fr, locals := lo, cells := 1, slots := 6 } s' F.2.1.1 F.2.1.2.1 F.2.1.2.2.1 F.2.1.2.2.2.1 F.2.1.2.2.2.2 H [] 0 0 (fun U => U.status = .running ∧ Ended U F.2.1.2.2.1 (.threw H.size) ∧ s'.WarmedH U.vm ∧ s'.sameButNew ({ U with vm := s'.vm } : State) [] 1 6 ∧ ∃ ce, U.heap[H.size]? = some ce ∧ ce.vm = .none ∧ s'.vm.findClass (xNm n) = some ce.cls) (F0 F.2.1.1 pc ls st) := by
    refine W.newcK C.1 C.2.1 hown' (hE'.2.1 _ w1 (by first | rfl | simp [stb, Cond.onTables, Cond.keeps, Cond.steady]) _) hi2 (hE'.2.1 _ w3 stb_ini _) (g := F0 F.2.1.1 pc ls st) rfl d0 (Nat.le_refl _) (Nat.le_refl _) hfc rfl (fun H1 kC hkC hcell hsz hold => ?_)
    refine lv_dup C.1 C.2.1 d3 rfl ?_
    refine ldcSW C.1 C.2.1 hown' hsa d4 ?_
    intro T2 hT2 X2
    have hrest : 2 * (F0 F.2.1.1 (pc + 7) ls (.ref sa :: .ref H.size :: .ref H.size :: st)).monitorRoom + ((Value.ref H.size :: st).map fun v => v.category).sum + (13 * (xSup.length + 1) + 42) ≤ lo := by
      show 2 * 0 + (1 + (st.map fun v => v.category).sum) + (13 * 3 + 42) ≤ lo
      omega
    have hcell' : T2.heap[H.size]? = some (freshCell cC kC) := by rw [hT2]; exact hcell
    have hsz' : (F0 F.2.1.1 (pc + 7) ls (.ref sa :: .ref H.size :: .ref H.size :: st)).locals.size = F.2.1.2.2.2.2.maxLocals := by rw [C.2.2.1]; exact hl.1
    obtain ⟨U, st1, hrun, hend, hWU, hsame, ce, hce, hoc⟩ := X2.ctorThrowS C.1 hnt hown' hfit (by decide +kernel) hatoms (fun x hx => by cases hx) (a := H.size) hfc hkC hcell' (by rw [hhp]; exact Nat.le_refl _) (msg := .ref sa) rfl (g := F0 F.2.1.1 (pc + 7) ls (.ref sa :: .ref H.size :: .ref H.size :: st)) rfl hsz' rfl rfl (rest := st) (by rfl) (by rw [C.2.1]; exact d6) (by rw [C.2.1]; exact d9) (fun x hx => (C.2.2.2.2.2.2.1 x hx).elim) hfr hrest C.2.2.2.2.2.1
    exact ⟨U, st1, hrun, hend, hWU, hsame, ce, hce, hoc.vm, hoc.cls⟩
  obtain ⟨t, a1, hrun, hend, hWt, hsame, ce, hce, hcv, hcl⟩ := key T hT Y
  obtain ⟨z1, z2⟩ := nb_keep hsame
  rw [hhp] at z1 z2
  refine ⟨t, a1, .threw H.size, hrun, hend, ?_, locs ++ [], ⟨State.WarmedH.trans hWs hWt, ?_⟩, fun q hq => hS.2.2 q (by simpa using hq)⟩
  · rw [hρ]
    refine ⟨⟨H.size, ce, rfl, hce, hcv, by rw [← hvm]; exact hcl⟩, hP.kept fun k q hq => z2 q.1 (hP k q hq).lt, ?_, fun q h1 h2 => ?_⟩
    · exact Nat.le_trans hS.1 z1
    · rw [z2 q (Nat.lt_of_lt_of_le h1 hS.1)]
      exact hS.2.1 q h1 h2
  · have h2 : (T.setVm F.1.2.2.2.2.vm).sameButNew ({ t with vm := F.1.2.2.2.2.vm } : State) [] 1 6 := by
      rw [hs'] at hsame
      obtain ⟨e1, e2⟩ := hsame
      refine ⟨?_, e2⟩
      refine e1.trans ?_
      show _ = { (T.setVm F.1.2.2.2.2.vm).setFrames t.frames with heap := t.heap, slotsUsed := t.slotsUsed }
      rw [← State.setFrames_setFrames (T.setVm F.1.2.2.2.2.vm) (.invoking F.2.1.1 F.2.1.2.1 :: F.2.1.2.2.1)]
      rfl
    have h3 := X.same.trans h2
    rw [hρ]
    exact h3
end JX
end
section
theorem fl_PI_36 : FL "LineFrames$Picture" 36 7 5 := ⟨_, rfl, by decide, rfl, by decide, Or.inl (List.mem_of_getElem? (i := 164) (by decide +kernel))⟩
theorem fw_7_5 : FW 7 5 .int := ⟨_, rfl, rfl, by decide +kernel⟩
theorem fl_PI_40 : FL "LineFrames$Picture" 40 7 6 := ⟨_, rfl, by decide, rfl, by decide, Or.inl (List.mem_of_getElem? (i := 168) (by decide +kernel))⟩
theorem fw_7_6 : FW 7 6 .int := ⟨_, rfl, rfl, by decide +kernel⟩
theorem fl_PI_43 : FL "LineFrames$Picture" 43 7 7 := ⟨_, rfl, by decide, rfl, by decide, Or.inl (List.mem_of_getElem? (i := 172) (by decide +kernel))⟩
theorem fw_7_7 : FW 7 7 .int := ⟨_, rfl, rfl, by decide +kernel⟩
theorem fl_PI_46 : FL "LineFrames$Picture" 46 7 8 := ⟨_, rfl, by decide, rfl, by decide, Or.inl (List.mem_of_getElem? (i := 175) (by decide +kernel))⟩
theorem fw_7_8 : FW 7 8 .int := ⟨_, rfl, rfl, by decide +kernel⟩
theorem fl_NO_26 : FL "LineFrames$Notes" 26 6 3 := ⟨_, rfl, by decide, rfl, by decide, Or.inl (List.mem_of_getElem? (i := 139) (by decide +kernel))⟩
theorem fw_6_3 : FW 6 3 .int := ⟨_, rfl, rfl, by decide +kernel⟩
theorem fl_RO_13 : FL "LineFrames$Row" 13 8 0 := ⟨_, rfl, by decide, rfl, by decide, Or.inl (List.mem_of_getElem? (i := 123) (by decide +kernel))⟩
theorem tg_8_0 (k : Nat) (h : Is k 8) : Is (wtg k 0) 100 := (show ∀ k, k < wN → wkd k = 8 → wtg k 0 < wN ∧ wkd (wtg k 0) = 100 by decide +kernel) k h.1 h.2
theorem fl_FA_7 : FL "LineFrames$Fault" 7 4 0 := ⟨_, rfl, by decide, rfl, by decide, Or.inl (List.mem_of_getElem? (i := 298) (by decide +kernel))⟩
theorem fw_4_0 : FW 4 0 .int := ⟨_, rfl, rfl, by decide +kernel⟩
theorem fl_FA_13 : FL "LineFrames$Fault" 13 4 1 := ⟨_, rfl, by decide, rfl, by decide, Or.inl (List.mem_of_getElem? (i := 299) (by decide +kernel))⟩
theorem fw_4_1 : FW 4 1 .int := ⟨_, rfl, rfl, by decide +kernel⟩
theorem fl_SR_50 : FL "LineFrames$StreamReader" 50 9 7 := ⟨_, rfl, by decide, rfl, by decide, Or.inl (List.mem_of_getElem? (i := 340) (by decide +kernel))⟩
theorem fl_SR_21 : FL "LineFrames$StreamReader" 21 9 2 := ⟨_, rfl, by decide, rfl, by decide, Or.inl (List.mem_of_getElem? (i := 334) (by decide +kernel))⟩
theorem tg_9_2 (k : Nat) (h : Is k 9) : Is (wtg k 2) 4 := (show ∀ k, k < wN → wkd k = 9 → wtg k 2 < wN ∧ wkd (wtg k 2) = 4 by decide +kernel) k h.1 h.2
theorem mv_SR_92 : MV "LineFrames$StreamReader" 92 ⟨"LineFrames$Fault", "met", "()Z"⟩ prog_5_method_4_code 1 (some .boolean) 0 4 := ⟨⟨Or.inl (List.mem_of_getElem? (i := 437) (by decide +kernel)), (List.mem_of_getElem? (i := 86) (by decide +kernel)), (List.mem_of_getElem? (i := 440) (by decide +kernel)), by decide, by decide +kernel⟩, (List.mem_of_getElem? (i := 438) (by decide +kernel)), (List.mem_of_getElem? (i := 439) (by decide +kernel)), _, rfl, rfl⟩
theorem fl_BY_15 : FL "LineFrames$Bytes" 15 3 1 := ⟨_, rfl, by decide, rfl, by decide, Or.inl (List.mem_of_getElem? (i := 205) (by decide +kernel))⟩
theorem fl_BY_9 : FL "LineFrames$Bytes" 9 3 0 := ⟨_, rfl, by decide, rfl, by decide, Or.inl (List.mem_of_getElem? (i := 204) (by decide +kernel))⟩
theorem tg_3_0 (k : Nat) (h : Is k 3) : Is (wtg k 0) 100 := (show ∀ k, k < wN → wkd k = 3 → wtg k 0 < wN ∧ wkd (wtg k 0) = 100 by decide +kernel) k h.1 h.2
theorem ms_SR_133 : MS "LineFrames$StreamReader" 133 ⟨"LineFrames$StreamReader", "isNote", "(I)Z"⟩ prog_10_method_6_code 1 (some .boolean) 1 := ⟨⟨Or.inl (List.mem_of_getElem? (i := 464) (by decide +kernel)), (List.mem_of_getElem? (i := 85) (by decide +kernel)), (List.mem_of_getElem? (i := 466) (by decide +kernel)), by decide, by decide +kernel⟩, (List.mem_of_getElem? (i := 465) (by decide +kernel))⟩
theorem fl_SR_72 : FL "LineFrames$StreamReader" 72 9 0 := ⟨_, rfl, by decide, rfl, by decide, Or.inl (List.mem_of_getElem? (i := 331) (by decide +kernel))⟩
theorem tg_9_0 (k : Nat) (h : Is k 9) : Is (wtg k 0) 3 := (show ∀ k, k < wN → wkd k = 9 → wtg k 0 < wN ∧ wkd (wtg k 0) = 3 by decide +kernel) k h.1 h.2
theorem fl_SR_46 : FL "LineFrames$StreamReader" 46 9 6 := ⟨_, rfl, by decide, rfl, by decide, Or.inl (List.mem_of_getElem? (i := 339) (by decide +kernel))⟩
theorem mv_SR_143 : MV "LineFrames$StreamReader" 143 ⟨"LineFrames$Bytes", "has", "(I)Z"⟩ prog_4_method_4_code 2 (some .boolean) 1 3 := ⟨⟨Or.inl (List.mem_of_getElem? (i := 483) (by decide +kernel)), (List.mem_of_getElem? (i := 81) (by decide +kernel)), (List.mem_of_getElem? (i := 486) (by decide +kernel)), by decide, by decide +kernel⟩, (List.mem_of_getElem? (i := 484) (by decide +kernel)), (List.mem_of_getElem? (i := 485) (by decide +kernel)), _, rfl, rfl⟩
theorem fw_9_7 : FW 9 7 .boolean := ⟨_, rfl, rfl, by decide +kernel⟩
theorem mv_SR_110 : MV "LineFrames$StreamReader" 110 ⟨"LineFrames$Fault", "meet", "(II)V"⟩ prog_5_method_3_code 3 none 2 4 := ⟨⟨Or.inl (List.mem_of_getElem? (i := 453) (by decide +kernel)), (List.mem_of_getElem? (i := 86) (by decide +kernel)), (List.mem_of_getElem? (i := 456) (by decide +kernel)), by decide, by decide +kernel⟩, (List.mem_of_getElem? (i := 454) (by decide +kernel)), (List.mem_of_getElem? (i := 455) (by decide +kernel)), _, rfl, rfl⟩
theorem mv_BY_19 : MV "LineFrames$Bytes" 19 ⟨"LineFrames$Bytes", "get", "(I)I"⟩ prog_4_method_5_code 2 (some .int) 1 3 := ⟨⟨Or.inl (List.mem_of_getElem? (i := 495) (by decide +kernel)), (List.mem_of_getElem? (i := 81) (by decide +kernel)), (List.mem_of_getElem? (i := 460) (by decide +kernel)), by decide, by decide +kernel⟩, (List.mem_of_getElem? (i := 458) (by decide +kernel)), (List.mem_of_getElem? (i := 459) (by decide +kernel)), _, rfl, rfl⟩
theorem mv_SR_146 : MV "LineFrames$StreamReader" 146 ⟨"LineFrames$Bytes", "wide", "(I)I"⟩ prog_4_method_6_code 2 (some .int) 1 3 := ⟨⟨Or.inl (List.mem_of_getElem? (i := 491) (by decide +kernel)), (List.mem_of_getElem? (i := 81) (by decide +kernel)), (List.mem_of_getElem? (i := 494) (by decide +kernel)), by decide, by decide +kernel⟩, (List.mem_of_getElem? (i := 492) (by decide +kernel)), (List.mem_of_getElem? (i := 493) (by decide +kernel)), _, rfl, rfl⟩
theorem mv_SR_117 : MV "LineFrames$StreamReader" 117 ⟨"LineFrames$Bytes", "size", "()I"⟩ prog_4_method_2_code 1 (some .int) 0 3 := ⟨⟨Or.inl (List.mem_of_getElem? (i := 449) (by decide +kernel)), (List.mem_of_getElem? (i := 81) (by decide +kernel)), (List.mem_of_getElem? (i := 452) (by decide +kernel)), by decide, by decide +kernel⟩, (List.mem_of_getElem? (i := 450) (by decide +kernel)), (List.mem_of_getElem? (i := 451) (by decide +kernel)), _, rfl, rfl⟩
theorem mv_SR_123 : MV "LineFrames$StreamReader" 123 ⟨"LineFrames$Bytes", "get", "(I)I"⟩ prog_4_method_5_code 2 (some .int) 1 3 := ⟨⟨Or.inl (List.mem_of_getElem? (i := 457) (by decide +kernel)), (List.mem_of_getElem? (i := 81) (by decide +kernel)), (List.mem_of_getElem? (i := 460) (by decide +kernel)), by decide, by decide +kernel⟩, (List.mem_of_getElem? (i := 458) (by decide +kernel)), (List.mem_of_getElem? (i := 459) (by decide +kernel)), _, rfl, rfl⟩
theorem ms_SR_194 : MS "LineFrames$StreamReader" 194 ⟨"LineFrames$Picture", "mayPreset", "(II)Z"⟩ prog_8_method_3_code 2 (some .boolean) 2 := ⟨⟨Or.inl (List.mem_of_getElem? (i := 516) (by decide +kernel)), (List.mem_of_getElem? (i := 78) (by decide +kernel)), (List.mem_of_getElem? (i := 518) (by decide +kernel)), by decide, by decide +kernel⟩, (List.mem_of_getElem? (i := 517) (by decide +kernel))⟩
theorem fl_SR_12 : FL "LineFrames$StreamReader" 12 9 1 := ⟨_, rfl, by decide, rfl, by decide, Or.inl (List.mem_of_getElem? (i := 332) (by decide +kernel))⟩
theorem tg_9_1 (k : Nat) (h : Is k 9) : Is (wtg k 1) 7 := (show ∀ k, k < wN → wkd k = 9 → wtg k 1 < wN ∧ wkd (wtg k 1) = 7 by decide +kernel) k h.1 h.2
theorem fl_SR_198 : FL "LineFrames$StreamReader" 198 7 1 := ⟨_, rfl, by decide, rfl, by decide, Or.inr ⟨"LineFrames", (List.mem_of_getElem? (i := 157) (by decide +kernel))⟩⟩
theorem tg_7_1 (k : Nat) (h : Is k 7) : Is (wtg k 1) 8 := (show ∀ k, k < wN → wkd k = 7 → wtg k 1 < wN ∧ wkd (wtg k 1) = 8 by decide +kernel) k h.1 h.2
theorem mv_SR_201 : MV "LineFrames$StreamReader" 201 ⟨"LineFrames$Row", "set", "(II)V"⟩ prog_9_method_3_code 3 none 2 8 := ⟨⟨Or.inl (List.mem_of_getElem? (i := 519) (by decide +kernel)), (List.mem_of_getElem? (i := 79) (by decide +kernel)), (List.mem_of_getElem? (i := 427) (by decide +kernel)), by decide, by decide +kernel⟩, (List.mem_of_getElem? (i := 425) (by decide +kernel)), (List.mem_of_getElem? (i := 426) (by decide +kernel)), _, rfl, rfl⟩
theorem fl_PI_23 : FL "LineFrames$Picture" 23 7 2 := ⟨_, rfl, by decide, rfl, by decide, Or.inl (List.mem_of_getElem? (i := 158) (by decide +kernel))⟩
theorem tg_7_2 (k : Nat) (h : Is k 7) : Is (wtg k 2) 8 := (show ∀ k, k < wN → wkd k = 7 → wtg k 2 < wN ∧ wkd (wtg k 2) = 8 by decide +kernel) k h.1 h.2
theorem mv_PI_71 : MV "LineFrames$Picture" 71 ⟨"LineFrames$Row", "get", "(I)I"⟩ prog_9_method_2_code 2 (some .int) 1 8 := ⟨⟨Or.inl (List.mem_of_getElem? (i := 536) (by decide +kernel)), (List.mem_of_getElem? (i := 79) (by decide +kernel)), (List.mem_of_getElem? (i := 478) (by decide +kernel)), by decide, by decide +kernel⟩, (List.mem_of_getElem? (i := 476) (by decide +kernel)), (List.mem_of_getElem? (i := 477) (by decide +kernel)), _, rfl, rfl⟩
theorem fl_PI_26 : FL "LineFrames$Picture" 26 7 3 := ⟨_, rfl, by decide, rfl, by decide, Or.inl (List.mem_of_getElem? (i := 159) (by decide +kernel))⟩
theorem tg_7_3 (k : Nat) (h : Is k 7) : Is (wtg k 3) 8 := (show ∀ k, k < wN → wkd k = 7 → wtg k 3 < wN ∧ wkd (wtg k 3) = 8 by decide +kernel) k h.1 h.2
theorem mv_PI_59 : MV "LineFrames$Picture" 59 ⟨"LineFrames$Row", "set", "(II)V"⟩ prog_9_method_3_code 3 none 2 8 := ⟨⟨Or.inl (List.mem_of_getElem? (i := 424) (by decide +kernel)), (List.mem_of_getElem? (i := 79) (by decide +kernel)), (List.mem_of_getElem? (i := 427) (by decide +kernel)), by decide, by decide +kernel⟩, (List.mem_of_getElem? (i := 425) (by decide +kernel)), (List.mem_of_getElem? (i := 426) (by decide +kernel)), _, rfl, rfl⟩
theorem mv_SR_207 : MV "LineFrames$StreamReader" 207 ⟨"LineFrames$Picture", "hasComponent", "(I)Z"⟩ prog_8_method_8_code 2 (some .boolean) 1 7 := ⟨⟨Or.inl (List.mem_of_getElem? (i := 528) (by decide +kernel)), (List.mem_of_getElem? (i := 78) (by decide +kernel)), (List.mem_of_getElem? (i := 531) (by decide +kernel)), by decide, by decide +kernel⟩, (List.mem_of_getElem? (i := 529) (by decide +kernel)), (List.mem_of_getElem? (i := 530) (by decide +kernel)), _, rfl, rfl⟩
theorem fl_SR_43 : FL "LineFrames$StreamReader" 43 9 5 := ⟨_, rfl, by decide, rfl, by decide, Or.inl (List.mem_of_getElem? (i := 338) (by decide +kernel))⟩
theorem tg_9_5 (k : Nat) (h : Is k 9) : Is (wtg k 5) 8 := (show ∀ k, k < wN → wkd k = 9 → wtg k 5 < wN ∧ wkd (wtg k 5) = 8 by decide +kernel) k h.1 h.2
theorem mv_SR_142 : MV "LineFrames$StreamReader" 142 ⟨"LineFrames$Row", "get", "(I)I"⟩ prog_9_method_2_code 2 (some .int) 1 8 := ⟨⟨Or.inl (List.mem_of_getElem? (i := 475) (by decide +kernel)), (List.mem_of_getElem? (i := 79) (by decide +kernel)), (List.mem_of_getElem? (i := 478) (by decide +kernel)), by decide, by decide +kernel⟩, (List.mem_of_getElem? (i := 476) (by decide +kernel)), (List.mem_of_getElem? (i := 477) (by decide +kernel)), _, rfl, rfl⟩
theorem mv_SR_210 : MV "LineFrames$StreamReader" 210 ⟨"LineFrames$Picture", "hasTable", "(I)Z"⟩ prog_8_method_10_code 2 (some .boolean) 1 7 := ⟨⟨Or.inl (List.mem_of_getElem? (i := 532) (by decide +kernel)), (List.mem_of_getElem? (i := 78) (by decide +kernel)), (List.mem_of_getElem? (i := 535) (by decide +kernel)), by decide, by decide +kernel⟩, (List.mem_of_getElem? (i := 533) (by decide +kernel)), (List.mem_of_getElem? (i := 534) (by decide +kernel)), _, rfl, rfl⟩
theorem fl_NO_14 : FL "LineFrames$Notes" 14 6 0 := ⟨_, rfl, by decide, rfl, by decide, Or.inl (List.mem_of_getElem? (i := 136) (by decide +kernel))⟩
theorem tg_6_0 (k : Nat) (h : Is k 6) : Is (wtg k 0) 8 := (show ∀ k, k < wN → wkd k = 6 → wtg k 0 < wN ∧ wkd (wtg k 0) = 8 by decide +kernel) k h.1 h.2
theorem mv_NO_34 : MV "LineFrames$Notes" 34 ⟨"LineFrames$Row", "set", "(II)V"⟩ prog_9_method_3_code 3 none 2 8 := ⟨⟨Or.inl (List.mem_of_getElem? (i := 569) (by decide +kernel)), (List.mem_of_getElem? (i := 79) (by decide +kernel)), (List.mem_of_getElem? (i := 427) (by decide +kernel)), by decide, by decide +kernel⟩, (List.mem_of_getElem? (i := 425) (by decide +kernel)), (List.mem_of_getElem? (i := 426) (by decide +kernel)), _, rfl, rfl⟩
theorem fl_NO_20 : FL "LineFrames$Notes" 20 6 1 := ⟨_, rfl, by decide, rfl, by decide, Or.inl (List.mem_of_getElem? (i := 137) (by decide +kernel))⟩
theorem tg_6_1 (k : Nat) (h : Is k 6) : Is (wtg k 1) 8 := (show ∀ k, k < wN → wkd k = 6 → wtg k 1 < wN ∧ wkd (wtg k 1) = 8 by decide +kernel) k h.1 h.2
theorem mv_NO_30 : MV "LineFrames$Notes" 30 ⟨"LineFrames$Row", "get", "(I)I"⟩ prog_9_method_2_code 2 (some .int) 1 8 := ⟨⟨Or.inl (List.mem_of_getElem? (i := 574) (by decide +kernel)), (List.mem_of_getElem? (i := 79) (by decide +kernel)), (List.mem_of_getElem? (i := 478) (by decide +kernel)), by decide, by decide +kernel⟩, (List.mem_of_getElem? (i := 476) (by decide +kernel)), (List.mem_of_getElem? (i := 477) (by decide +kernel)), _, rfl, rfl⟩
theorem fl_NO_23 : FL "LineFrames$Notes" 23 6 2 := ⟨_, rfl, by decide, rfl, by decide, Or.inl (List.mem_of_getElem? (i := 138) (by decide +kernel))⟩
theorem tg_6_2 (k : Nat) (h : Is k 6) : Is (wtg k 2) 8 := (show ∀ k, k < wN → wkd k = 6 → wtg k 2 < wN ∧ wkd (wtg k 2) = 8 by decide +kernel) k h.1 h.2
theorem fl_MD_30 : FL "LineFrames$Model" 30 5 5 := ⟨_, rfl, by decide, rfl, by decide, Or.inl (List.mem_of_getElem? (i := 232) (by decide +kernel))⟩
theorem fl_BO_9 : FL "LineFrames$BitSource" 9 2 2 := ⟨_, rfl, by decide, rfl, by decide, Or.inl (List.mem_of_getElem? (i := 317) (by decide +kernel))⟩
theorem fw_2_2 : FW 2 2 .int := ⟨_, rfl, rfl, by decide +kernel⟩
theorem fl_BO_15 : FL "LineFrames$BitSource" 15 2 3 := ⟨_, rfl, by decide, rfl, by decide, Or.inl (List.mem_of_getElem? (i := 318) (by decide +kernel))⟩
theorem fw_2_3 : FW 2 3 .int := ⟨_, rfl, rfl, by decide +kernel⟩
theorem fl_BO_18 : FL "LineFrames$BitSource" 18 2 4 := ⟨_, rfl, by decide, rfl, by decide, Or.inl (List.mem_of_getElem? (i := 319) (by decide +kernel))⟩
theorem fw_2_4 : FW 2 4 .int := ⟨_, rfl, rfl, by decide +kernel⟩
theorem fl_BO_21 : FL "LineFrames$BitSource" 21 2 0 := ⟨_, rfl, by decide, rfl, by decide, Or.inl (List.mem_of_getElem? (i := 315) (by decide +kernel))⟩
theorem tg_2_0 (k : Nat) (h : Is k 2) : Is (wtg k 0) 3 := (show ∀ k, k < wN → wkd k = 2 → wtg k 0 < wN ∧ wkd (wtg k 0) = 3 by decide +kernel) k h.1 h.2
theorem mv_BO_39 : MV "LineFrames$BitSource" 39 ⟨"LineFrames$Bytes", "has", "(I)Z"⟩ prog_4_method_4_code 2 (some .boolean) 1 3 := ⟨⟨Or.inl (List.mem_of_getElem? (i := 607) (by decide +kernel)), (List.mem_of_getElem? (i := 81) (by decide +kernel)), (List.mem_of_getElem? (i := 486) (by decide +kernel)), by decide, by decide +kernel⟩, (List.mem_of_getElem? (i := 484) (by decide +kernel)), (List.mem_of_getElem? (i := 485) (by decide +kernel)), _, rfl, rfl⟩
theorem fl_BO_25 : FL "LineFrames$BitSource" 25 2 1 := ⟨_, rfl, by decide, rfl, by decide, Or.inl (List.mem_of_getElem? (i := 316) (by decide +kernel))⟩
theorem tg_2_1 (k : Nat) (h : Is k 2) : Is (wtg k 1) 4 := (show ∀ k, k < wN → wkd k = 2 → wtg k 1 < wN ∧ wkd (wtg k 1) = 4 by decide +kernel) k h.1 h.2
theorem mv_BO_45 : MV "LineFrames$BitSource" 45 ⟨"LineFrames$Bytes", "size", "()I"⟩ prog_4_method_2_code 1 (some .int) 0 3 := ⟨⟨Or.inl (List.mem_of_getElem? (i := 608) (by decide +kernel)), (List.mem_of_getElem? (i := 81) (by decide +kernel)), (List.mem_of_getElem? (i := 452) (by decide +kernel)), by decide, by decide +kernel⟩, (List.mem_of_getElem? (i := 450) (by decide +kernel)), (List.mem_of_getElem? (i := 451) (by decide +kernel)), _, rfl, rfl⟩
theorem mv_BO_49 : MV "LineFrames$BitSource" 49 ⟨"LineFrames$Bytes", "get", "(I)I"⟩ prog_4_method_5_code 2 (some .int) 1 3 := ⟨⟨Or.inl (List.mem_of_getElem? (i := 609) (by decide +kernel)), (List.mem_of_getElem? (i := 81) (by decide +kernel)), (List.mem_of_getElem? (i := 460) (by decide +kernel)), by decide, by decide +kernel⟩, (List.mem_of_getElem? (i := 458) (by decide +kernel)), (List.mem_of_getElem? (i := 459) (by decide +kernel)), _, rfl, rfl⟩
theorem mv_BO_33 : MV "LineFrames$BitSource" 33 ⟨"LineFrames$Fault", "meet", "(II)V"⟩ prog_5_method_3_code 3 none 2 4 := ⟨⟨Or.inl (List.mem_of_getElem? (i := 606) (by decide +kernel)), (List.mem_of_getElem? (i := 86) (by decide +kernel)), (List.mem_of_getElem? (i := 456) (by decide +kernel)), by decide, by decide +kernel⟩, (List.mem_of_getElem? (i := 454) (by decide +kernel)), (List.mem_of_getElem? (i := 455) (by decide +kernel)), _, rfl, rfl⟩
theorem ms_MD_66 : MS "LineFrames$Model" 66 ⟨"LineFrames", "placeOf", "(III)I"⟩ prog_1_method_22_code 3 (some .int) 3 := ⟨⟨Or.inr ⟨"LineFrames", (List.mem_of_getElem? (i := 623) (by decide +kernel))⟩, (List.mem_of_getElem? (i := 76) (by decide +kernel)), (List.mem_of_getElem? (i := 625) (by decide +kernel)), by decide, by decide +kernel⟩, (List.mem_of_getElem? (i := 624) (by decide +kernel))⟩
theorem fl_MD_42 : FL "LineFrames$Model" 42 5 0 := ⟨_, rfl, by decide, rfl, by decide, Or.inl (List.mem_of_getElem? (i := 227) (by decide +kernel))⟩
theorem tg_5_0 (k : Nat) (h : Is k 5) : Is (wtg k 0) 8 := (show ∀ k, k < wN → wkd k = 5 → wtg k 0 < wN ∧ wkd (wtg k 0) = 8 by decide +kernel) k h.1 h.2
theorem mv_MD_57 : MV "LineFrames$Model" 57 ⟨"LineFrames$Row", "get", "(I)I"⟩ prog_9_method_2_code 2 (some .int) 1 8 := ⟨⟨Or.inl (List.mem_of_getElem? (i := 588) (by decide +kernel)), (List.mem_of_getElem? (i := 79) (by decide +kernel)), (List.mem_of_getElem? (i := 478) (by decide +kernel)), by decide, by decide +kernel⟩, (List.mem_of_getElem? (i := 476) (by decide +kernel)), (List.mem_of_getElem? (i := 477) (by decide +kernel)), _, rfl, rfl⟩
theorem mm_MD_70 : MM "LineFrames$Model" 70 Lib.Math.max.name Lib.Math.max.code 2 := ⟨(List.mem_of_getElem? (i := 626) (by decide +kernel)), (List.mem_of_getElem? (i := 108) (by decide +kernel)), (List.mem_of_getElem? (i := 77) (by decide +kernel)), (List.mem_of_getElem? (i := 109) (by decide +kernel))⟩
theorem mm_MD_76 : MM "LineFrames$Model" 76 Lib.Math.min.name Lib.Math.min.code 2 := ⟨(List.mem_of_getElem? (i := 627) (by decide +kernel)), (List.mem_of_getElem? (i := 105) (by decide +kernel)), (List.mem_of_getElem? (i := 77) (by decide +kernel)), (List.mem_of_getElem? (i := 106) (by decide +kernel))⟩
theorem fl_MD_23 : FL "LineFrames$Model" 23 5 3 := ⟨_, rfl, by decide, rfl, by decide, Or.inl (List.mem_of_getElem? (i := 230) (by decide +kernel))⟩
theorem fl_MD_14 : FL "LineFrames$Model" 14 5 1 := ⟨_, rfl, by decide, rfl, by decide, Or.inl (List.mem_of_getElem? (i := 228) (by decide +kernel))⟩
theorem tg_5_1 (k : Nat) (h : Is k 5) : Is (wtg k 1) 8 := (show ∀ k, k < wN → wkd k = 5 → wtg k 1 < wN ∧ wkd (wtg k 1) = 8 by decide +kernel) k h.1 h.2
theorem fl_MD_20 : FL "LineFrames$Model" 20 5 2 := ⟨_, rfl, by decide, rfl, by decide, Or.inl (List.mem_of_getElem? (i := 229) (by decide +kernel))⟩
theorem tg_5_2 (k : Nat) (h : Is k 5) : Is (wtg k 2) 8 := (show ∀ k, k < wN → wkd k = 5 → wtg k 2 < wN ∧ wkd (wtg k 2) = 8 by decide +kernel) k h.1 h.2
theorem fl_MD_36 : FL "LineFrames$Model" 36 5 7 := ⟨_, rfl, by decide, rfl, by decide, Or.inl (List.mem_of_getElem? (i := 234) (by decide +kernel))⟩
theorem mm_MD_89 : MM "LineFrames$Model" 89 Lib.Math.abs.name Lib.Math.abs.code 1 := ⟨(List.mem_of_getElem? (i := 659) (by decide +kernel)), (List.mem_of_getElem? (i := 660) (by decide +kernel)), (List.mem_of_getElem? (i := 77) (by decide +kernel)), (List.mem_of_getElem? (i := 661) (by decide +kernel))⟩
theorem mv_MD_82 : MV "LineFrames$Model" 82 ⟨"LineFrames$Row", "set", "(II)V"⟩ prog_9_method_3_code 3 none 2 8 := ⟨⟨Or.inl (List.mem_of_getElem? (i := 654) (by decide +kernel)), (List.mem_of_getElem? (i := 79) (by decide +kernel)), (List.mem_of_getElem? (i := 427) (by decide +kernel)), by decide, by decide +kernel⟩, (List.mem_of_getElem? (i := 425) (by decide +kernel)), (List.mem_of_getElem? (i := 426) (by decide +kernel)), _, rfl, rfl⟩
theorem fl_MD_27 : FL "LineFrames$Model" 27 5 4 := ⟨_, rfl, by decide, rfl, by decide, Or.inl (List.mem_of_getElem? (i := 231) (by decide +kernel))⟩
theorem mv_MD_79 : MV "LineFrames$Model" 79 ⟨"LineFrames$Model", "toSample", "(I)I"⟩ prog_6_method_9_code 2 (some .int) 1 5 := ⟨⟨Or.inl (List.mem_of_getElem? (i := 650) (by decide +kernel)), (List.mem_of_getElem? (i := 83) (by decide +kernel)), (List.mem_of_getElem? (i := 653) (by decide +kernel)), by decide, by decide +kernel⟩, (List.mem_of_getElem? (i := 652) (by decide +kernel)), (List.mem_of_getElem? (i := 20) (by decide +kernel)), _, rfl, rfl⟩
theorem mv_MD_86 : MV "LineFrames$Model" 86 ⟨"LineFrames$Model", "learn", "(II)V"⟩ prog_6_method_10_code 5 none 2 5 := ⟨⟨Or.inl (List.mem_of_getElem? (i := 655) (by decide +kernel)), (List.mem_of_getElem? (i := 83) (by decide +kernel)), (List.mem_of_getElem? (i := 658) (by decide +kernel)), by decide, by decide +kernel⟩, (List.mem_of_getElem? (i := 657) (by decide +kernel)), (List.mem_of_getElem? (i := 21) (by decide +kernel)), _, rfl, rfl⟩
theorem fl_MD_33 : FL "LineFrames$Model" 33 5 6 := ⟨_, rfl, by decide, rfl, by decide, Or.inl (List.mem_of_getElem? (i := 233) (by decide +kernel))⟩
theorem fl_LF_18 : FL "LineFrames" 18 0 0 := ⟨_, rfl, by decide, rfl, by decide, Or.inl (List.mem_of_getElem? (i := 381) (by decide +kernel))⟩
theorem fl_LF_25 : FL "LineFrames" 25 0 1 := ⟨_, rfl, by decide, rfl, by decide, Or.inl (List.mem_of_getElem? (i := 382) (by decide +kernel))⟩
theorem tg_0_1 (k : Nat) (h : Is k 0) : Is (wtg k 1) 7 := (show ∀ k, k < wN → wkd k = 0 → wtg k 1 < wN ∧ wkd (wtg k 1) = 7 by decide +kernel) k h.1 h.2
theorem fl_LF_222 : FL "LineFrames" 222 7 8 := ⟨_, rfl, by decide, rfl, by decide, Or.inr ⟨"LineFrames", (List.mem_of_getElem? (i := 178) (by decide +kernel))⟩⟩
theorem fl_LF_144 : FL "LineFrames" 144 7 4 := ⟨_, rfl, by decide, rfl, by decide, Or.inr ⟨"LineFrames", (List.mem_of_getElem? (i := 162) (by decide +kernel))⟩⟩
theorem tg_7_4 (k : Nat) (h : Is k 7) : Is (wtg k 4) 6 := (show ∀ k, k < wN → wkd k = 7 → wtg k 4 < wN ∧ wkd (wtg k 4) = 6 by decide +kernel) k h.1 h.2
theorem mv_LF_250 : MV "LineFrames" 250 ⟨"LineFrames$Notes", "count", "()I"⟩ prog_7_method_2_code 1 (some .int) 0 6 := ⟨⟨Or.inl (List.mem_of_getElem? (i := 674) (by decide +kernel)), (List.mem_of_getElem? (i := 80) (by decide +kernel)), (List.mem_of_getElem? (i := 677) (by decide +kernel)), by decide, by decide +kernel⟩, (List.mem_of_getElem? (i := 675) (by decide +kernel)), (List.mem_of_getElem? (i := 676) (by decide +kernel)), _, rfl, rfl⟩
theorem fl_LF_32 : FL "LineFrames" 32 0 2 := ⟨_, rfl, by decide, rfl, by decide, Or.inl (List.mem_of_getElem? (i := 383) (by decide +kernel))⟩
theorem tg_0_2 (k : Nat) (h : Is k 0) : Is (wtg k 2) 3 := (show ∀ k, k < wN → wkd k = 0 → wtg k 2 < wN ∧ wkd (wtg k 2) = 3 by decide +kernel) k h.1 h.2
theorem mv_LF_183 : MV "LineFrames" 183 ⟨"LineFrames$Bytes", "size", "()I"⟩ prog_4_method_2_code 1 (some .int) 0 3 := ⟨⟨Or.inl (List.mem_of_getElem? (i := 678) (by decide +kernel)), (List.mem_of_getElem? (i := 81) (by decide +kernel)), (List.mem_of_getElem? (i := 452) (by decide +kernel)), by decide, by decide +kernel⟩, (List.mem_of_getElem? (i := 450) (by decide +kernel)), (List.mem_of_getElem? (i := 451) (by decide +kernel)), _, rfl, rfl⟩
theorem fl_LF_36 : FL "LineFrames" 36 0 3 := ⟨_, rfl, by decide, rfl, by decide, Or.inl (List.mem_of_getElem? (i := 384) (by decide +kernel))⟩
theorem tg_0_3 (k : Nat) (h : Is k 0) : Is (wtg k 3) 3 := (show ∀ k, k < wN → wkd k = 0 → wtg k 3 < wN ∧ wkd (wtg k 3) = 3 by decide +kernel) k h.1 h.2
theorem fl_LF_53 : FL "LineFrames" 53 0 5 := ⟨_, rfl, by decide, rfl, by decide, Or.inl (List.mem_of_getElem? (i := 386) (by decide +kernel))⟩
theorem tg_0_5 (k : Nat) (h : Is k 0) : Is (wtg k 5) 9 := (show ∀ k, k < wN → wkd k = 0 → wtg k 5 < wN ∧ wkd (wtg k 5) = 9 by decide +kernel) k h.1 h.2
theorem fl_LF_225 : FL "LineFrames" 225 9 2 := ⟨_, rfl, by decide, rfl, by decide, Or.inr ⟨"LineFrames", (List.mem_of_getElem? (i := 335) (by decide +kernel))⟩⟩
theorem mv_LF_261 : MV "LineFrames" 261 ⟨"LineFrames$Fault", "number", "()I"⟩ prog_5_method_5_code 1 (some .int) 0 4 := ⟨⟨Or.inl (List.mem_of_getElem? (i := 679) (by decide +kernel)), (List.mem_of_getElem? (i := 86) (by decide +kernel)), (List.mem_of_getElem? (i := 682) (by decide +kernel)), by decide, by decide +kernel⟩, (List.mem_of_getElem? (i := 680) (by decide +kernel)), (List.mem_of_getElem? (i := 681) (by decide +kernel)), _, rfl, rfl⟩
theorem fl_LF_264 : FL "LineFrames" 264 9 12 := ⟨_, rfl, by decide, rfl, by decide, Or.inr ⟨"LineFrames", (List.mem_of_getElem? (i := 349) (by decide +kernel))⟩⟩
theorem fl_LF_267 : FL "LineFrames" 267 9 13 := ⟨_, rfl, by decide, rfl, by decide, Or.inr ⟨"LineFrames", (List.mem_of_getElem? (i := 351) (by decide +kernel))⟩⟩
theorem fw_3_1 : FW 3 1 .int := ⟨_, rfl, rfl, by decide +kernel⟩
theorem mv_LF_270 : MV "LineFrames" 270 ⟨"LineFrames$Bytes", "clear", "()V"⟩ prog_4_method_10_code 1 none 0 3 := ⟨⟨Or.inl (List.mem_of_getElem? (i := 687) (by decide +kernel)), (List.mem_of_getElem? (i := 81) (by decide +kernel)), (List.mem_of_getElem? (i := 690) (by decide +kernel)), by decide, by decide +kernel⟩, (List.mem_of_getElem? (i := 688) (by decide +kernel)), (List.mem_of_getElem? (i := 689) (by decide +kernel)), _, rfl, rfl⟩
set_option maxRecDepth 100000 in
theorem ox_LF_271_275 : OX "LineFrames" 271 275 1 := ⟨(List.mem_of_getElem? (i := 787) (by decide +kernel)), (List.mem_of_getElem? (i := 788) (by decide +kernel)), (List.mem_of_getElem? (i := 93) (by decide +kernel)), by decide +kernel, by decide +kernel⟩
theorem mv_PI_67 : MV "LineFrames$Picture" 67 ⟨"LineFrames$Picture", "hasComponent", "(I)Z"⟩ prog_8_method_8_code 2 (some .boolean) 1 7 := ⟨⟨Or.inl (List.mem_of_getElem? (i := 807) (by decide +kernel)), (List.mem_of_getElem? (i := 78) (by decide +kernel)), (List.mem_of_getElem? (i := 531) (by decide +kernel)), by decide, by decide +kernel⟩, (List.mem_of_getElem? (i := 529) (by decide +kernel)), (List.mem_of_getElem? (i := 530) (by decide +kernel)), _, rfl, rfl⟩
theorem mv_PI_63 : MV "LineFrames$Picture" 63 ⟨"LineFrames$Picture", "top", "()I"⟩ prog_8_method_6_code 1 (some .int) 0 7 := ⟨⟨Or.inl (List.mem_of_getElem? (i := 828) (by decide +kernel)), (List.mem_of_getElem? (i := 78) (by decide +kernel)), (List.mem_of_getElem? (i := 527) (by decide +kernel)), by decide, by decide +kernel⟩, (List.mem_of_getElem? (i := 525) (by decide +kernel)), (List.mem_of_getElem? (i := 526) (by decide +kernel)), _, rfl, rfl⟩
theorem mv_LF_75 : MV "LineFrames" 75 ⟨"LineFrames", "wantPicture", "()V"⟩ prog_1_method_19_code 1 none 0 0 := ⟨⟨Or.inl (List.mem_of_getElem? (i := 783) (by decide +kernel)), (List.mem_of_getElem? (i := 76) (by decide +kernel)), (List.mem_of_getElem? (i := 786) (by decide +kernel)), by decide, by decide +kernel⟩, (List.mem_of_getElem? (i := 785) (by decide +kernel)), (List.mem_of_getElem? (i := 24) (by decide +kernel)), _, rfl, rfl⟩
theorem mv_LF_78 : MV "LineFrames" 78 ⟨"LineFrames$Picture", "hasSample", "(III)Z"⟩ prog_8_method_9_code 4 (some .boolean) 3 7 := ⟨⟨Or.inl (List.mem_of_getElem? (i := 803) (by decide +kernel)), (List.mem_of_getElem? (i := 78) (by decide +kernel)), (List.mem_of_getElem? (i := 806) (by decide +kernel)), by decide, by decide +kernel⟩, (List.mem_of_getElem? (i := 804) (by decide +kernel)), (List.mem_of_getElem? (i := 805) (by decide +kernel)), _, rfl, rfl⟩
theorem mv_LF_87 : MV "LineFrames" 87 ⟨"LineFrames$Picture", "mayBeSample", "(I)Z"⟩ prog_8_method_7_code 2 (some .boolean) 1 7 := ⟨⟨Or.inl (List.mem_of_getElem? (i := 824) (by decide +kernel)), (List.mem_of_getElem? (i := 78) (by decide +kernel)), (List.mem_of_getElem? (i := 827) (by decide +kernel)), by decide, by decide +kernel⟩, (List.mem_of_getElem? (i := 825) (by decide +kernel)), (List.mem_of_getElem? (i := 826) (by decide +kernel)), _, rfl, rfl⟩
theorem ms_LF_93 : MS "LineFrames" 93 ⟨"LineFrames", "placeOf", "(III)I"⟩ prog_1_method_22_code 3 (some .int) 3 := ⟨⟨Or.inl (List.mem_of_getElem? (i := 830) (by decide +kernel)), (List.mem_of_getElem? (i := 76) (by decide +kernel)), (List.mem_of_getElem? (i := 625) (by decide +kernel)), by decide, by decide +kernel⟩, (List.mem_of_getElem? (i := 624) (by decide +kernel))⟩
theorem fl_LF_97 : FL "LineFrames" 97 7 0 := ⟨_, rfl, by decide, rfl, by decide, Or.inr ⟨"LineFrames", (List.mem_of_getElem? (i := 151) (by decide +kernel))⟩⟩
end
section
theorem tg_7_0 (k : Nat) (h : Is k 7) : Is (wtg k 0) 8 := (show ∀ k, k < wN → wkd k = 7 → wtg k 0 < wN ∧ wkd (wtg k 0) = 8 by decide +kernel) k h.1 h.2
theorem mv_LF_101 : MV "LineFrames" 101 ⟨"LineFrames$Row", "get", "(I)I"⟩ prog_9_method_2_code 2 (some .int) 1 8 := ⟨⟨Or.inl (List.mem_of_getElem? (i := 831) (by decide +kernel)), (List.mem_of_getElem? (i := 79) (by decide +kernel)), (List.mem_of_getElem? (i := 478) (by decide +kernel)), by decide, by decide +kernel⟩, (List.mem_of_getElem? (i := 476) (by decide +kernel)), (List.mem_of_getElem? (i := 477) (by decide +kernel)), _, rfl, rfl⟩
theorem mv_LF_107 : MV "LineFrames" 107 ⟨"LineFrames$Row", "set", "(II)V"⟩ prog_9_method_3_code 3 none 2 8 := ⟨⟨Or.inl (List.mem_of_getElem? (i := 832) (by decide +kernel)), (List.mem_of_getElem? (i := 79) (by decide +kernel)), (List.mem_of_getElem? (i := 427) (by decide +kernel)), by decide, by decide +kernel⟩, (List.mem_of_getElem? (i := 425) (by decide +kernel)), (List.mem_of_getElem? (i := 426) (by decide +kernel)), _, rfl, rfl⟩
set_option maxRecDepth 100000 in
theorem ox_LF_61_65 : OX "LineFrames" 61 65 3 := ⟨(List.mem_of_getElem? (i := 703) (by decide +kernel)), (List.mem_of_getElem? (i := 704) (by decide +kernel)), (List.mem_of_getElem? (i := 92) (by decide +kernel)), by decide +kernel, by decide +kernel⟩
set_option maxRecDepth 100000 in
theorem ox_LF_82_86 : OX "LineFrames" 82 86 2 := ⟨(List.mem_of_getElem? (i := 808) (by decide +kernel)), (List.mem_of_getElem? (i := 809) (by decide +kernel)), (List.mem_of_getElem? (i := 94) (by decide +kernel)), by decide +kernel, by decide +kernel⟩
theorem ms_LF_111 : MS "LineFrames" 111 ⟨"LineFrames$Picture", "mayPreset", "(II)Z"⟩ prog_8_method_3_code 2 (some .boolean) 2 := ⟨⟨Or.inl (List.mem_of_getElem? (i := 840) (by decide +kernel)), (List.mem_of_getElem? (i := 78) (by decide +kernel)), (List.mem_of_getElem? (i := 518) (by decide +kernel)), by decide, by decide +kernel⟩, (List.mem_of_getElem? (i := 517) (by decide +kernel))⟩
theorem fl_LF_117 : FL "LineFrames" 117 7 1 := ⟨_, rfl, by decide, rfl, by decide, Or.inr ⟨"LineFrames", (List.mem_of_getElem? (i := 155) (by decide +kernel))⟩⟩
theorem mv_LF_148 : MV "LineFrames" 148 ⟨"LineFrames$Notes", "full", "()Z"⟩ prog_7_method_3_code 1 (some .boolean) 0 6 := ⟨⟨Or.inl (List.mem_of_getElem? (i := 869) (by decide +kernel)), (List.mem_of_getElem? (i := 80) (by decide +kernel)), (List.mem_of_getElem? (i := 564) (by decide +kernel)), by decide, by decide +kernel⟩, (List.mem_of_getElem? (i := 562) (by decide +kernel)), (List.mem_of_getElem? (i := 563) (by decide +kernel)), _, rfl, rfl⟩
theorem mv_LF_159 : MV "LineFrames" 159 ⟨"LineFrames$Notes", "open", "(I)I"⟩ prog_7_method_8_code 3 (some .int) 1 6 := ⟨⟨Or.inl (List.mem_of_getElem? (i := 886) (by decide +kernel)), (List.mem_of_getElem? (i := 80) (by decide +kernel)), (List.mem_of_getElem? (i := 568) (by decide +kernel)), by decide, by decide +kernel⟩, (List.mem_of_getElem? (i := 566) (by decide +kernel)), (List.mem_of_getElem? (i := 567) (by decide +kernel)), _, rfl, rfl⟩
set_option maxRecDepth 100000 in
theorem ox_LF_154_158 : OX "LineFrames" 154 158 4 := ⟨(List.mem_of_getElem? (i := 870) (by decide +kernel)), (List.mem_of_getElem? (i := 871) (by decide +kernel)), (List.mem_of_getElem? (i := 95) (by decide +kernel)), by decide +kernel, by decide +kernel⟩
theorem mv_LF_162 : MV "LineFrames" 162 ⟨"LineFrames$Notes", "has", "(I)Z"⟩ prog_7_method_4_code 2 (some .boolean) 1 6 := ⟨⟨Or.inl (List.mem_of_getElem? (i := 894) (by decide +kernel)), (List.mem_of_getElem? (i := 80) (by decide +kernel)), (List.mem_of_getElem? (i := 897) (by decide +kernel)), by decide, by decide +kernel⟩, (List.mem_of_getElem? (i := 895) (by decide +kernel)), (List.mem_of_getElem? (i := 896) (by decide +kernel)), _, rfl, rfl⟩
theorem ms_LF_167 : MS "LineFrames" 167 ⟨"LineFrames", "wantByte", "(I)V"⟩ prog_1_method_21_code 1 none 1 := ⟨⟨Or.inl (List.mem_of_getElem? (i := 899) (by decide +kernel)), (List.mem_of_getElem? (i := 76) (by decide +kernel)), (List.mem_of_getElem? (i := 901) (by decide +kernel)), by decide, by decide +kernel⟩, (List.mem_of_getElem? (i := 900) (by decide +kernel))⟩
theorem mv_LF_170 : MV "LineFrames" 170 ⟨"LineFrames$Notes", "sizeOf", "(I)I"⟩ prog_7_method_6_code 2 (some .int) 1 6 := ⟨⟨Or.inl (List.mem_of_getElem? (i := 903) (by decide +kernel)), (List.mem_of_getElem? (i := 80) (by decide +kernel)), (List.mem_of_getElem? (i := 906) (by decide +kernel)), by decide, by decide +kernel⟩, (List.mem_of_getElem? (i := 904) (by decide +kernel)), (List.mem_of_getElem? (i := 905) (by decide +kernel)), _, rfl, rfl⟩
theorem mv_LF_175 : MV "LineFrames" 175 ⟨"LineFrames$Notes", "append", "(II)I"⟩ prog_7_method_9_code 4 (some .int) 2 6 := ⟨⟨Or.inl (List.mem_of_getElem? (i := 908) (by decide +kernel)), (List.mem_of_getElem? (i := 80) (by decide +kernel)), (List.mem_of_getElem? (i := 573) (by decide +kernel)), by decide, by decide +kernel⟩, (List.mem_of_getElem? (i := 571) (by decide +kernel)), (List.mem_of_getElem? (i := 572) (by decide +kernel)), _, rfl, rfl⟩
theorem fl_SW_29 : FL "LineFrames$StreamWriter" 29 10 1 := ⟨_, rfl, by decide, rfl, by decide, Or.inl (List.mem_of_getElem? (i := 272) (by decide +kernel))⟩
theorem tg_10_1 (k : Nat) (h : Is k 10) : Is (wtg k 1) 3 := (show ∀ k, k < wN → wkd k = 10 → wtg k 1 < wN ∧ wkd (wtg k 1) = 3 by decide +kernel) k h.1 h.2
theorem mv_SW_75 : MV "LineFrames$StreamWriter" 75 ⟨"LineFrames$Bytes", "add", "(I)V"⟩ prog_4_method_8_code 2 none 1 3 := ⟨⟨Or.inl (List.mem_of_getElem? (i := 926) (by decide +kernel)), (List.mem_of_getElem? (i := 81) (by decide +kernel)), (List.mem_of_getElem? (i := 929) (by decide +kernel)), by decide, by decide +kernel⟩, (List.mem_of_getElem? (i := 927) (by decide +kernel)), (List.mem_of_getElem? (i := 928) (by decide +kernel)), _, rfl, rfl⟩
theorem mv_BY_23 : MV "LineFrames$Bytes" 23 ⟨"LineFrames$Bytes", "add", "(I)V"⟩ prog_4_method_8_code 2 none 1 3 := ⟨⟨Or.inl (List.mem_of_getElem? (i := 948) (by decide +kernel)), (List.mem_of_getElem? (i := 81) (by decide +kernel)), (List.mem_of_getElem? (i := 929) (by decide +kernel)), by decide, by decide +kernel⟩, (List.mem_of_getElem? (i := 927) (by decide +kernel)), (List.mem_of_getElem? (i := 928) (by decide +kernel)), _, rfl, rfl⟩
theorem mv_SW_47 : MV "LineFrames$StreamWriter" 47 ⟨"LineFrames$StreamWriter", "mark", "(I)V"⟩ prog_11_method_3_code 2 none 1 10 := ⟨⟨Or.inl (List.mem_of_getElem? (i := 922) (by decide +kernel)), (List.mem_of_getElem? (i := 82) (by decide +kernel)), (List.mem_of_getElem? (i := 925) (by decide +kernel)), by decide, by decide +kernel⟩, (List.mem_of_getElem? (i := 924) (by decide +kernel)), (List.mem_of_getElem? (i := 25) (by decide +kernel)), _, rfl, rfl⟩
theorem mv_SW_78 : MV "LineFrames$StreamWriter" 78 ⟨"LineFrames$Bytes", "addWide", "(I)V"⟩ prog_4_method_9_code 2 none 1 3 := ⟨⟨Or.inl (List.mem_of_getElem? (i := 944) (by decide +kernel)), (List.mem_of_getElem? (i := 81) (by decide +kernel)), (List.mem_of_getElem? (i := 947) (by decide +kernel)), by decide, by decide +kernel⟩, (List.mem_of_getElem? (i := 945) (by decide +kernel)), (List.mem_of_getElem? (i := 946) (by decide +kernel)), _, rfl, rfl⟩
theorem fl_SW_25 : FL "LineFrames$StreamWriter" 25 10 0 := ⟨_, rfl, by decide, rfl, by decide, Or.inl (List.mem_of_getElem? (i := 271) (by decide +kernel))⟩
theorem tg_10_0 (k : Nat) (h : Is k 10) : Is (wtg k 0) 7 := (show ∀ k, k < wN → wkd k = 10 → wtg k 0 < wN ∧ wkd (wtg k 0) = 7 by decide +kernel) k h.1 h.2
theorem fl_SW_114 : FL "LineFrames$StreamWriter" 114 7 1 := ⟨_, rfl, by decide, rfl, by decide, Or.inr ⟨"LineFrames", (List.mem_of_getElem? (i := 156) (by decide +kernel))⟩⟩
theorem mv_SW_118 : MV "LineFrames$StreamWriter" 118 ⟨"LineFrames$Row", "get", "(I)I"⟩ prog_9_method_2_code 2 (some .int) 1 8 := ⟨⟨Or.inl (List.mem_of_getElem? (i := 961) (by decide +kernel)), (List.mem_of_getElem? (i := 79) (by decide +kernel)), (List.mem_of_getElem? (i := 478) (by decide +kernel)), by decide, by decide +kernel⟩, (List.mem_of_getElem? (i := 476) (by decide +kernel)), (List.mem_of_getElem? (i := 477) (by decide +kernel)), _, rfl, rfl⟩
theorem mv_SW_98 : MV "LineFrames$StreamWriter" 98 ⟨"LineFrames$StreamWriter", "segment", "(II)V"⟩ prog_11_method_4_code 3 none 2 10 := ⟨⟨Or.inl (List.mem_of_getElem? (i := 940) (by decide +kernel)), (List.mem_of_getElem? (i := 82) (by decide +kernel)), (List.mem_of_getElem? (i := 943) (by decide +kernel)), by decide, by decide +kernel⟩, (List.mem_of_getElem? (i := 942) (by decide +kernel)), (List.mem_of_getElem? (i := 27) (by decide +kernel)), _, rfl, rfl⟩
theorem fl_BK_15 : FL "LineFrames$BitSink" 15 1 2 := ⟨_, rfl, by decide, rfl, by decide, Or.inl (List.mem_of_getElem? (i := 263) (by decide +kernel))⟩
theorem fl_BK_9 : FL "LineFrames$BitSink" 9 1 1 := ⟨_, rfl, by decide, rfl, by decide, Or.inl (List.mem_of_getElem? (i := 262) (by decide +kernel))⟩
theorem fw_1_1 : FW 1 1 .int := ⟨_, rfl, rfl, by decide +kernel⟩
theorem fw_1_2 : FW 1 2 .int := ⟨_, rfl, rfl, by decide +kernel⟩
theorem fl_BK_18 : FL "LineFrames$BitSink" 18 1 0 := ⟨_, rfl, by decide, rfl, by decide, Or.inl (List.mem_of_getElem? (i := 261) (by decide +kernel))⟩
theorem tg_1_0 (k : Nat) (h : Is k 1) : Is (wtg k 0) 3 := (show ∀ k, k < wN → wkd k = 1 → wtg k 0 < wN ∧ wkd (wtg k 0) = 3 by decide +kernel) k h.1 h.2
theorem mv_BK_26 : MV "LineFrames$BitSink" 26 ⟨"LineFrames$Bytes", "add", "(I)V"⟩ prog_4_method_8_code 2 none 1 3 := ⟨⟨Or.inl (List.mem_of_getElem? (i := 986) (by decide +kernel)), (List.mem_of_getElem? (i := 81) (by decide +kernel)), (List.mem_of_getElem? (i := 929) (by decide +kernel)), by decide, by decide +kernel⟩, (List.mem_of_getElem? (i := 927) (by decide +kernel)), (List.mem_of_getElem? (i := 928) (by decide +kernel)), _, rfl, rfl⟩
theorem mv_MD_50 : MV "LineFrames$Model" 50 ⟨"LineFrames$Model", "steps", "(I)I"⟩ prog_6_method_8_code 2 (some .int) 1 5 := ⟨⟨Or.inl (List.mem_of_getElem? (i := 584) (by decide +kernel)), (List.mem_of_getElem? (i := 83) (by decide +kernel)), (List.mem_of_getElem? (i := 587) (by decide +kernel)), by decide, by decide +kernel⟩, (List.mem_of_getElem? (i := 586) (by decide +kernel)), (List.mem_of_getElem? (i := 15) (by decide +kernel)), _, rfl, rfl⟩
theorem mv_LF_187 : MV "LineFrames" 187 ⟨"LineFrames$Bytes", "has", "(I)Z"⟩ prog_4_method_4_code 2 (some .boolean) 1 3 := ⟨⟨Or.inl (List.mem_of_getElem? (i := 1018) (by decide +kernel)), (List.mem_of_getElem? (i := 81) (by decide +kernel)), (List.mem_of_getElem? (i := 486) (by decide +kernel)), by decide, by decide +kernel⟩, (List.mem_of_getElem? (i := 484) (by decide +kernel)), (List.mem_of_getElem? (i := 485) (by decide +kernel)), _, rfl, rfl⟩
theorem mv_LF_190 : MV "LineFrames" 190 ⟨"LineFrames$Bytes", "get", "(I)I"⟩ prog_4_method_5_code 2 (some .int) 1 3 := ⟨⟨Or.inl (List.mem_of_getElem? (i := 1020) (by decide +kernel)), (List.mem_of_getElem? (i := 81) (by decide +kernel)), (List.mem_of_getElem? (i := 460) (by decide +kernel)), by decide, by decide +kernel⟩, (List.mem_of_getElem? (i := 458) (by decide +kernel)), (List.mem_of_getElem? (i := 459) (by decide +kernel)), _, rfl, rfl⟩
theorem mv_LF_191 : MV "LineFrames" 191 ⟨"LineFrames$Bytes", "room", "()I"⟩ prog_4_method_3_code 1 (some .int) 0 3 := ⟨⟨Or.inl (List.mem_of_getElem? (i := 1028) (by decide +kernel)), (List.mem_of_getElem? (i := 81) (by decide +kernel)), (List.mem_of_getElem? (i := 1031) (by decide +kernel)), by decide, by decide +kernel⟩, (List.mem_of_getElem? (i := 1029) (by decide +kernel)), (List.mem_of_getElem? (i := 1030) (by decide +kernel)), _, rfl, rfl⟩
theorem mv_LF_196 : MV "LineFrames" 196 ⟨"LineFrames$Bytes", "add", "(I)V"⟩ prog_4_method_8_code 2 none 1 3 := ⟨⟨Or.inl (List.mem_of_getElem? (i := 1033) (by decide +kernel)), (List.mem_of_getElem? (i := 81) (by decide +kernel)), (List.mem_of_getElem? (i := 929) (by decide +kernel)), by decide, by decide +kernel⟩, (List.mem_of_getElem? (i := 927) (by decide +kernel)), (List.mem_of_getElem? (i := 928) (by decide +kernel)), _, rfl, rfl⟩
theorem mv_LF_205 : MV "LineFrames" 205 ⟨"LineFrames$Bytes", "set", "(II)V"⟩ prog_4_method_7_code 3 none 2 3 := ⟨⟨Or.inl (List.mem_of_getElem? (i := 1051) (by decide +kernel)), (List.mem_of_getElem? (i := 81) (by decide +kernel)), (List.mem_of_getElem? (i := 1054) (by decide +kernel)), by decide, by decide +kernel⟩, (List.mem_of_getElem? (i := 1052) (by decide +kernel)), (List.mem_of_getElem? (i := 1053) (by decide +kernel)), _, rfl, rfl⟩
theorem fl_LF_215 : FL "LineFrames" 215 9 7 := ⟨_, rfl, by decide, rfl, by decide, Or.inr ⟨"LineFrames", (List.mem_of_getElem? (i := 341) (by decide +kernel))⟩⟩
theorem mv_LF_234 : MV "LineFrames" 234 ⟨"LineFrames", "wantReading", "()V"⟩ prog_1_method_20_code 1 none 0 0 := ⟨⟨Or.inl (List.mem_of_getElem? (i := 1062) (by decide +kernel)), (List.mem_of_getElem? (i := 76) (by decide +kernel)), (List.mem_of_getElem? (i := 1065) (by decide +kernel)), by decide, by decide +kernel⟩, (List.mem_of_getElem? (i := 1064) (by decide +kernel)), (List.mem_of_getElem? (i := 37) (by decide +kernel)), _, rfl, rfl⟩
theorem fl_LF_219 : FL "LineFrames" 219 9 1 := ⟨_, rfl, by decide, rfl, by decide, Or.inr ⟨"LineFrames", (List.mem_of_getElem? (i := 333) (by decide +kernel))⟩⟩
theorem mv_LF_128 : MV "LineFrames" 128 ⟨"LineFrames$Picture", "hasTable", "(I)Z"⟩ prog_8_method_10_code 2 (some .boolean) 1 7 := ⟨⟨Or.inl (List.mem_of_getElem? (i := 853) (by decide +kernel)), (List.mem_of_getElem? (i := 78) (by decide +kernel)), (List.mem_of_getElem? (i := 535) (by decide +kernel)), by decide, by decide +kernel⟩, (List.mem_of_getElem? (i := 533) (by decide +kernel)), (List.mem_of_getElem? (i := 534) (by decide +kernel)), _, rfl, rfl⟩
theorem mv_LF_131 : MV "LineFrames" 131 ⟨"LineFrames$Picture", "numberOf", "(II)I"⟩ prog_8_method_12_code 3 (some .int) 2 7 := ⟨⟨Or.inl (List.mem_of_getElem? (i := 854) (by decide +kernel)), (List.mem_of_getElem? (i := 78) (by decide +kernel)), (List.mem_of_getElem? (i := 857) (by decide +kernel)), by decide, by decide +kernel⟩, (List.mem_of_getElem? (i := 855) (by decide +kernel)), (List.mem_of_getElem? (i := 856) (by decide +kernel)), _, rfl, rfl⟩
theorem fl_LF_237 : FL "LineFrames" 237 7 5 := ⟨_, rfl, by decide, rfl, by decide, Or.inr ⟨"LineFrames", (List.mem_of_getElem? (i := 166) (by decide +kernel))⟩⟩
theorem fl_LF_240 : FL "LineFrames" 240 7 6 := ⟨_, rfl, by decide, rfl, by decide, Or.inr ⟨"LineFrames", (List.mem_of_getElem? (i := 170) (by decide +kernel))⟩⟩
theorem fl_LF_243 : FL "LineFrames" 243 7 7 := ⟨_, rfl, by decide, rfl, by decide, Or.inr ⟨"LineFrames", (List.mem_of_getElem? (i := 174) (by decide +kernel))⟩⟩
theorem fl_LF_246 : FL "LineFrames" 246 9 10 := ⟨_, rfl, by decide, rfl, by decide, Or.inr ⟨"LineFrames", (List.mem_of_getElem? (i := 345) (by decide +kernel))⟩⟩
theorem fl_LF_249 : FL "LineFrames" 249 9 11 := ⟨_, rfl, by decide, rfl, by decide, Or.inr ⟨"LineFrames", (List.mem_of_getElem? (i := 347) (by decide +kernel))⟩⟩
theorem mv_LF_258 : MV "LineFrames" 258 ⟨"LineFrames$Notes", "byteIn", "(II)I"⟩ prog_7_method_7_code 3 (some .int) 2 6 := ⟨⟨Or.inl (List.mem_of_getElem? (i := 1083) (by decide +kernel)), (List.mem_of_getElem? (i := 80) (by decide +kernel)), (List.mem_of_getElem? (i := 952) (by decide +kernel)), by decide, by decide +kernel⟩, (List.mem_of_getElem? (i := 950) (by decide +kernel)), (List.mem_of_getElem? (i := 951) (by decide +kernel)), _, rfl, rfl⟩
theorem mv_LF_255 : MV "LineFrames" 255 ⟨"LineFrames$Notes", "kindOf", "(I)I"⟩ prog_7_method_5_code 2 (some .int) 1 6 := ⟨⟨Or.inl (List.mem_of_getElem? (i := 1082) (by decide +kernel)), (List.mem_of_getElem? (i := 80) (by decide +kernel)), (List.mem_of_getElem? (i := 938) (by decide +kernel)), by decide, by decide +kernel⟩, (List.mem_of_getElem? (i := 936) (by decide +kernel)), (List.mem_of_getElem? (i := 937) (by decide +kernel)), _, rfl, rfl⟩
theorem fl_RM_90 : FL "LineFramesModel" 90 11 1 := ⟨_, rfl, by decide, rfl, by decide, Or.inl (List.mem_of_getElem? (i := 1091) (by decide +kernel))⟩
theorem fw_11_1 : FW 11 1 .int := ⟨_, rfl, rfl, by decide +kernel⟩
theorem fl_RM_110 : FL "LineFramesModel" 110 11 5 := ⟨_, rfl, by decide, rfl, by decide, Or.inl (List.mem_of_getElem? (i := 1095) (by decide +kernel))⟩
theorem ms_RM_93 : MS "LineFramesModel" 93 ⟨"LineFramesModel", "isIn", "(III)Z"⟩ prog_13_method_3_code 3 (some .boolean) 3 := ⟨⟨Or.inl (List.mem_of_getElem? (i := 1295) (by decide +kernel)), (List.mem_of_getElem? (i := 88) (by decide +kernel)), (List.mem_of_getElem? (i := 1297) (by decide +kernel)), by decide, by decide +kernel⟩, (List.mem_of_getElem? (i := 1296) (by decide +kernel))⟩
theorem mv_RM_125 : MV "LineFramesModel" 125 ⟨"LineFramesModel", "isComponent", "(I)Z"⟩ prog_13_method_7_code 2 (some .boolean) 1 11 := ⟨⟨Or.inl (List.mem_of_getElem? (i := 1306) (by decide +kernel)), (List.mem_of_getElem? (i := 88) (by decide +kernel)), (List.mem_of_getElem? (i := 1309) (by decide +kernel)), by decide, by decide +kernel⟩, (List.mem_of_getElem? (i := 1308) (by decide +kernel)), (List.mem_of_getElem? (i := 39) (by decide +kernel)), _, rfl, rfl⟩
theorem fl_RM_101 : FL "LineFramesModel" 101 11 2 := ⟨_, rfl, by decide, rfl, by decide, Or.inl (List.mem_of_getElem? (i := 1092) (by decide +kernel))⟩
theorem fl_RM_104 : FL "LineFramesModel" 104 11 3 := ⟨_, rfl, by decide, rfl, by decide, Or.inl (List.mem_of_getElem? (i := 1093) (by decide +kernel))⟩
theorem fl_RM_107 : FL "LineFramesModel" 107 11 4 := ⟨_, rfl, by decide, rfl, by decide, Or.inl (List.mem_of_getElem? (i := 1094) (by decide +kernel))⟩
theorem ms_RM_129 : MS "LineFramesModel" 129 ⟨"LineFramesModel", "topOf", "(I)I"⟩ prog_13_method_5_code 1 (some .int) 1 := ⟨⟨Or.inl (List.mem_of_getElem? (i := 1310) (by decide +kernel)), (List.mem_of_getElem? (i := 88) (by decide +kernel)), (List.mem_of_getElem? (i := 1312) (by decide +kernel)), by decide, by decide +kernel⟩, (List.mem_of_getElem? (i := 1311) (by decide +kernel))⟩
theorem fl_RM_7 : FL "LineFramesModel" 7 11 6 := ⟨_, rfl, by decide, rfl, by decide, Or.inl (List.mem_of_getElem? (i := 1096) (by decide +kernel))⟩
theorem tg_11_6 (k : Nat) (h : Is k 11) : Is (wtg k 6) 100 := (show ∀ k, k < wN → wkd k = 11 → wtg k 6 < wN ∧ wkd (wtg k 6) = 100 by decide +kernel) k h.1 h.2
theorem fl_RM_119 : FL "LineFramesModel" 119 11 11 := ⟨_, rfl, by decide, rfl, by decide, Or.inl (List.mem_of_getElem? (i := 1101) (by decide +kernel))⟩
theorem fl_RM_116 : FL "LineFramesModel" 116 11 10 := ⟨_, rfl, by decide, rfl, by decide, Or.inl (List.mem_of_getElem? (i := 1100) (by decide +kernel))⟩
theorem fl_RM_113 : FL "LineFramesModel" 113 11 9 := ⟨_, rfl, by decide, rfl, by decide, Or.inl (List.mem_of_getElem? (i := 1099) (by decide +kernel))⟩
theorem fw_11_9 : FW 11 9 .int := ⟨_, rfl, rfl, by decide +kernel⟩
theorem fw_11_10 : FW 11 10 .int := ⟨_, rfl, rfl, by decide +kernel⟩
theorem fw_11_11 : FW 11 11 .int := ⟨_, rfl, rfl, by decide +kernel⟩
theorem fl_RM_122 : FL "LineFramesModel" 122 11 12 := ⟨_, rfl, by decide, rfl, by decide, Or.inl (List.mem_of_getElem? (i := 1102) (by decide +kernel))⟩
theorem fl_RM_20 : FL "LineFramesModel" 20 11 13 := ⟨_, rfl, by decide, rfl, by decide, Or.inl (List.mem_of_getElem? (i := 1103) (by decide +kernel))⟩
theorem tg_11_13 (k : Nat) (h : Is k 11) : Is (wtg k 13) 100 := (show ∀ k, k < wN → wkd k = 11 → wtg k 13 < wN ∧ wkd (wtg k 13) = 100 by decide +kernel) k h.1 h.2
theorem fl_RM_23 : FL "LineFramesModel" 23 11 14 := ⟨_, rfl, by decide, rfl, by decide, Or.inl (List.mem_of_getElem? (i := 1104) (by decide +kernel))⟩
theorem tg_11_14 (k : Nat) (h : Is k 11) : Is (wtg k 14) 100 := (show ∀ k, k < wN → wkd k = 11 → wtg k 14 < wN ∧ wkd (wtg k 14) = 100 by decide +kernel) k h.1 h.2
theorem fl_RM_29 : FL "LineFramesModel" 29 11 16 := ⟨_, rfl, by decide, rfl, by decide, Or.inl (List.mem_of_getElem? (i := 1106) (by decide +kernel))⟩
theorem tg_11_16 (k : Nat) (h : Is k 11) : Is (wtg k 16) 100 := (show ∀ k, k < wN → wkd k = 11 → wtg k 16 < wN ∧ wkd (wtg k 16) = 100 by decide +kernel) k h.1 h.2
theorem fl_RM_146 : FL "LineFramesModel" 146 11 17 := ⟨_, rfl, by decide, rfl, by decide, Or.inl (List.mem_of_getElem? (i := 1107) (by decide +kernel))⟩
theorem fl_RM_143 : FL "LineFramesModel" 143 11 56 := ⟨_, rfl, by decide, rfl, by decide, Or.inl (List.mem_of_getElem? (i := 1146) (by decide +kernel))⟩
theorem fl_RM_77 : FL "LineFramesModel" 77 11 51 := ⟨_, rfl, by decide, rfl, by decide, Or.inl (List.mem_of_getElem? (i := 1141) (by decide +kernel))⟩
theorem tg_11_51 (k : Nat) (h : Is k 11) : Is (wtg k 51) 100 := (show ∀ k, k < wN → wkd k = 11 → wtg k 51 < wN ∧ wkd (wtg k 51) = 100 by decide +kernel) k h.1 h.2
theorem fl_RM_133 : FL "LineFramesModel" 133 11 54 := ⟨_, rfl, by decide, rfl, by decide, Or.inl (List.mem_of_getElem? (i := 1144) (by decide +kernel))⟩
theorem fl_RM_136 : FL "LineFramesModel" 136 11 55 := ⟨_, rfl, by decide, rfl, by decide, Or.inl (List.mem_of_getElem? (i := 1145) (by decide +kernel))⟩
theorem mv_RM_139 : MV "LineFramesModel" 139 ⟨"LineFramesModel", "step", "()I"⟩ prog_13_method_13_code 1 (some .int) 0 11 := ⟨⟨Or.inl (List.mem_of_getElem? (i := 1366) (by decide +kernel)), (List.mem_of_getElem? (i := 88) (by decide +kernel)), (List.mem_of_getElem? (i := 1369) (by decide +kernel)), by decide, by decide +kernel⟩, (List.mem_of_getElem? (i := 1368) (by decide +kernel)), (List.mem_of_getElem? (i := 48) (by decide +kernel)), _, rfl, rfl⟩
theorem fl_RM_83 : FL "LineFramesModel" 83 11 53 := ⟨_, rfl, by decide, rfl, by decide, Or.inl (List.mem_of_getElem? (i := 1143) (by decide +kernel))⟩
theorem tg_11_53 (k : Nat) (h : Is k 11) : Is (wtg k 53) 100 := (show ∀ k, k < wN → wkd k = 11 → wtg k 53 < wN ∧ wkd (wtg k 53) = 100 by decide +kernel) k h.1 h.2
theorem fl_RM_207 : FL "LineFramesModel" 207 11 19 := ⟨_, rfl, by decide, rfl, by decide, Or.inl (List.mem_of_getElem? (i := 1109) (by decide +kernel))⟩
theorem fl_RM_32 : FL "LineFramesModel" 32 11 18 := ⟨_, rfl, by decide, rfl, by decide, Or.inl (List.mem_of_getElem? (i := 1108) (by decide +kernel))⟩
theorem tg_11_18 (k : Nat) (h : Is k 11) : Is (wtg k 18) 100 := (show ∀ k, k < wN → wkd k = 11 → wtg k 18 < wN ∧ wkd (wtg k 18) = 100 by decide +kernel) k h.1 h.2
theorem fw_11_19 : FW 11 19 .int := ⟨_, rfl, rfl, by decide +kernel⟩
theorem fl_RM_210 : FL "LineFramesModel" 210 11 28 := ⟨_, rfl, by decide, rfl, by decide, Or.inl (List.mem_of_getElem? (i := 1118) (by decide +kernel))⟩
theorem fw_11_28 : FW 11 28 .int := ⟨_, rfl, rfl, by decide +kernel⟩
theorem fl_RM_213 : FL "LineFramesModel" 213 11 29 := ⟨_, rfl, by decide, rfl, by decide, Or.inl (List.mem_of_getElem? (i := 1119) (by decide +kernel))⟩
theorem fw_11_29 : FW 11 29 .int := ⟨_, rfl, rfl, by decide +kernel⟩
theorem fl_RM_260 : FL "LineFramesModel" 260 11 62 := ⟨_, rfl, by decide, rfl, by decide, Or.inl (List.mem_of_getElem? (i := 1152) (by decide +kernel))⟩
theorem fw_11_62 : FW 11 62 .int := ⟨_, rfl, rfl, by decide +kernel⟩
theorem fl_RM_269 : FL "LineFramesModel" 269 11 61 := ⟨_, rfl, by decide, rfl, by decide, Or.inl (List.mem_of_getElem? (i := 1151) (by decide +kernel))⟩
theorem fl_RM_263 : FL "LineFramesModel" 263 11 60 := ⟨_, rfl, by decide, rfl, by decide, Or.inl (List.mem_of_getElem? (i := 1150) (by decide +kernel))⟩
theorem fl_RM_266 : FL "LineFramesModel" 266 11 64 := ⟨_, rfl, by decide, rfl, by decide, Or.inl (List.mem_of_getElem? (i := 1154) (by decide +kernel))⟩
theorem fl_RM_330 : FL "LineFramesModel" 330 11 20 := ⟨_, rfl, by decide, rfl, by decide, Or.inl (List.mem_of_getElem? (i := 1110) (by decide +kernel))⟩
theorem fl_RM_35 : FL "LineFramesModel" 35 11 21 := ⟨_, rfl, by decide, rfl, by decide, Or.inl (List.mem_of_getElem? (i := 1111) (by decide +kernel))⟩
theorem tg_11_21 (k : Nat) (h : Is k 11) : Is (wtg k 21) 100 := (show ∀ k, k < wN → wkd k = 11 → wtg k 21 < wN ∧ wkd (wtg k 21) = 100 by decide +kernel) k h.1 h.2
theorem fl_RM_86 : FL "LineFramesModel" 86 11 0 := ⟨_, rfl, by decide, rfl, by decide, Or.inl (List.mem_of_getElem? (i := 1090) (by decide +kernel))⟩
theorem fl_RM_281 : FL "LineFramesModel" 281 11 30 := ⟨_, rfl, by decide, rfl, by decide, Or.inl (List.mem_of_getElem? (i := 1120) (by decide +kernel))⟩
theorem fl_RM_296 : FL "LineFramesModel" 296 11 31 := ⟨_, rfl, by decide, rfl, by decide, Or.inl (List.mem_of_getElem? (i := 1121) (by decide +kernel))⟩
theorem mv_PI_49 : MV "LineFrames$Picture" 49 ⟨"LineFrames$Picture", "measure", "(IIII)V"⟩ prog_8_method_5_code 5 none 4 7 := ⟨⟨Or.inl (List.mem_of_getElem? (i := 412) (by decide +kernel)), (List.mem_of_getElem? (i := 78) (by decide +kernel)), (List.mem_of_getElem? (i := 415) (by decide +kernel)), by decide, by decide +kernel⟩, (List.mem_of_getElem? (i := 413) (by decide +kernel)), (List.mem_of_getElem? (i := 414) (by decide +kernel)), _, rfl, rfl⟩
theorem fl_PI_14 : FL "LineFrames$Picture" 14 7 0 := ⟨_, rfl, by decide, rfl, by decide, Or.inl (List.mem_of_getElem? (i := 149) (by decide +kernel))⟩
theorem mv_PI_53 : MV "LineFrames$Picture" 53 ⟨"LineFrames$Row", "fill", "(I)V"⟩ prog_9_method_4_code 3 none 1 8 := ⟨⟨Or.inl (List.mem_of_getElem? (i := 416) (by decide +kernel)), (List.mem_of_getElem? (i := 79) (by decide +kernel)), (List.mem_of_getElem? (i := 419) (by decide +kernel)), by decide, by decide +kernel⟩, (List.mem_of_getElem? (i := 417) (by decide +kernel)), (List.mem_of_getElem? (i := 418) (by decide +kernel)), _, rfl, rfl⟩
theorem fl_PI_32 : FL "LineFrames$Picture" 32 7 4 := ⟨_, rfl, by decide, rfl, by decide, Or.inl (List.mem_of_getElem? (i := 160) (by decide +kernel))⟩
theorem mv_PI_56 : MV "LineFrames$Picture" 56 ⟨"LineFrames$Notes", "clear", "()V"⟩ prog_7_method_10_code 1 none 0 6 := ⟨⟨Or.inl (List.mem_of_getElem? (i := 420) (by decide +kernel)), (List.mem_of_getElem? (i := 80) (by decide +kernel)), (List.mem_of_getElem? (i := 423) (by decide +kernel)), by decide, by decide +kernel⟩, (List.mem_of_getElem? (i := 421) (by decide +kernel)), (List.mem_of_getElem? (i := 422) (by decide +kernel)), _, rfl, rfl⟩
theorem fl_PI_20 : FL "LineFrames$Picture" 20 7 1 := ⟨_, rfl, by decide, rfl, by decide, Or.inl (List.mem_of_getElem? (i := 153) (by decide +kernel))⟩
theorem mv_SR_85 : MV "LineFrames$StreamReader" 85 ⟨"LineFrames$Picture", "clear", "()V"⟩ prog_8_method_4_code 1 none 0 7 := ⟨⟨Or.inl (List.mem_of_getElem? (i := 408) (by decide +kernel)), (List.mem_of_getElem? (i := 78) (by decide +kernel)), (List.mem_of_getElem? (i := 411) (by decide +kernel)), by decide, by decide +kernel⟩, (List.mem_of_getElem? (i := 409) (by decide +kernel)), (List.mem_of_getElem? (i := 410) (by decide +kernel)), _, rfl, rfl⟩
theorem mv_SR_88 : MV "LineFrames$StreamReader" 88 ⟨"LineFrames$Fault", "clear", "()V"⟩ prog_5_method_2_code 1 none 0 4 := ⟨⟨Or.inl (List.mem_of_getElem? (i := 428) (by decide +kernel)), (List.mem_of_getElem? (i := 86) (by decide +kernel)), (List.mem_of_getElem? (i := 431) (by decide +kernel)), by decide, by decide +kernel⟩, (List.mem_of_getElem? (i := 429) (by decide +kernel)), (List.mem_of_getElem? (i := 430) (by decide +kernel)), _, rfl, rfl⟩
theorem mv_SR_89 : MV "LineFrames$StreamReader" 89 ⟨"LineFrames$Row", "fill", "(I)V"⟩ prog_9_method_4_code 3 none 1 8 := ⟨⟨Or.inl (List.mem_of_getElem? (i := 432) (by decide +kernel)), (List.mem_of_getElem? (i := 79) (by decide +kernel)), (List.mem_of_getElem? (i := 419) (by decide +kernel)), by decide, by decide +kernel⟩, (List.mem_of_getElem? (i := 417) (by decide +kernel)), (List.mem_of_getElem? (i := 418) (by decide +kernel)), _, rfl, rfl⟩
theorem fw_9_6 : FW 9 6 .int := ⟨_, rfl, rfl, by decide +kernel⟩
theorem fl_SR_66 : FL "LineFrames$StreamReader" 66 9 12 := ⟨_, rfl, by decide, rfl, by decide, Or.inl (List.mem_of_getElem? (i := 348) (by decide +kernel))⟩
theorem fw_9_12 : FW 9 12 .int := ⟨_, rfl, rfl, by decide +kernel⟩
theorem fl_SR_69 : FL "LineFrames$StreamReader" 69 9 13 := ⟨_, rfl, by decide, rfl, by decide, Or.inl (List.mem_of_getElem? (i := 350) (by decide +kernel))⟩
theorem fw_9_13 : FW 9 13 .int := ⟨_, rfl, rfl, by decide +kernel⟩
theorem fl_SR_136 : FL "LineFrames$StreamReader" 136 7 8 := ⟨_, rfl, by decide, rfl, by decide, Or.inr ⟨"LineFrames", (List.mem_of_getElem? (i := 177) (by decide +kernel))⟩⟩
theorem mv_SR_139 : MV "LineFrames$StreamReader" 139 ⟨"LineFrames$StreamReader", "allScanned", "()Z"⟩ prog_10_method_9_code 2 (some .boolean) 0 9 := ⟨⟨Or.inl (List.mem_of_getElem? (i := 471) (by decide +kernel)), (List.mem_of_getElem? (i := 85) (by decide +kernel)), (List.mem_of_getElem? (i := 474) (by decide +kernel)), by decide, by decide +kernel⟩, (List.mem_of_getElem? (i := 473) (by decide +kernel)), (List.mem_of_getElem? (i := 2) (by decide +kernel)), _, rfl, rfl⟩
theorem ms_SR_126 : MS "LineFrames$StreamReader" 126 ⟨"LineFrames$StreamReader", "isKnown", "(I)Z"⟩ prog_10_method_7_code 1 (some .boolean) 1 := ⟨⟨Or.inl (List.mem_of_getElem? (i := 461) (by decide +kernel)), (List.mem_of_getElem? (i := 85) (by decide +kernel)), (List.mem_of_getElem? (i := 463) (by decide +kernel)), by decide, by decide +kernel⟩, (List.mem_of_getElem? (i := 462) (by decide +kernel))⟩
theorem mv_SR_130 : MV "LineFrames$StreamReader" 130 ⟨"LineFrames$StreamReader", "isTooSoonOrLate", "(I)Z"⟩ prog_10_method_8_code 3 (some .boolean) 1 9 := ⟨⟨Or.inl (List.mem_of_getElem? (i := 467) (by decide +kernel)), (List.mem_of_getElem? (i := 85) (by decide +kernel)), (List.mem_of_getElem? (i := 470) (by decide +kernel)), by decide, by decide +kernel⟩, (List.mem_of_getElem? (i := 469) (by decide +kernel)), (List.mem_of_getElem? (i := 1) (by decide +kernel)), _, rfl, rfl⟩
end
section
theorem ms_SR_180 : MS "LineFrames$StreamReader" 180 ⟨"LineFrames$Picture", "mayMeasure", "(IIII)Z"⟩ prog_8_method_2_code 4 (some .boolean) 4 := ⟨⟨Or.inl (List.mem_of_getElem? (i := 504) (by decide +kernel)), (List.mem_of_getElem? (i := 78) (by decide +kernel)), (List.mem_of_getElem? (i := 506) (by decide +kernel)), by decide, by decide +kernel⟩, (List.mem_of_getElem? (i := 505) (by decide +kernel))⟩
theorem mv_SR_184 : MV "LineFrames$StreamReader" 184 ⟨"LineFrames$Picture", "measure", "(IIII)V"⟩ prog_8_method_5_code 5 none 4 7 := ⟨⟨Or.inl (List.mem_of_getElem? (i := 507) (by decide +kernel)), (List.mem_of_getElem? (i := 78) (by decide +kernel)), (List.mem_of_getElem? (i := 415) (by decide +kernel)), by decide, by decide +kernel⟩, (List.mem_of_getElem? (i := 413) (by decide +kernel)), (List.mem_of_getElem? (i := 414) (by decide +kernel)), _, rfl, rfl⟩
theorem mv_SR_204 : MV "LineFrames$StreamReader" 204 ⟨"LineFrames$Picture", "top", "()I"⟩ prog_8_method_6_code 1 (some .int) 0 7 := ⟨⟨Or.inl (List.mem_of_getElem? (i := 524) (by decide +kernel)), (List.mem_of_getElem? (i := 78) (by decide +kernel)), (List.mem_of_getElem? (i := 527) (by decide +kernel)), by decide, by decide +kernel⟩, (List.mem_of_getElem? (i := 525) (by decide +kernel)), (List.mem_of_getElem? (i := 526) (by decide +kernel)), _, rfl, rfl⟩
theorem mv_SR_213 : MV "LineFrames$StreamReader" 213 ⟨"LineFrames$Picture", "openTable", "(I)V"⟩ prog_8_method_11_code 3 none 1 7 := ⟨⟨Or.inl (List.mem_of_getElem? (i := 537) (by decide +kernel)), (List.mem_of_getElem? (i := 78) (by decide +kernel)), (List.mem_of_getElem? (i := 540) (by decide +kernel)), by decide, by decide +kernel⟩, (List.mem_of_getElem? (i := 538) (by decide +kernel)), (List.mem_of_getElem? (i := 539) (by decide +kernel)), _, rfl, rfl⟩
theorem mv_SR_216 : MV "LineFrames$StreamReader" 216 ⟨"LineFrames$Picture", "setNumber", "(III)V"⟩ prog_8_method_13_code 4 none 3 7 := ⟨⟨Or.inl (List.mem_of_getElem? (i := 541) (by decide +kernel)), (List.mem_of_getElem? (i := 78) (by decide +kernel)), (List.mem_of_getElem? (i := 544) (by decide +kernel)), by decide, by decide +kernel⟩, (List.mem_of_getElem? (i := 542) (by decide +kernel)), (List.mem_of_getElem? (i := 543) (by decide +kernel)), _, rfl, rfl⟩
theorem mv_SR_188 : MV "LineFrames$StreamReader" 188 ⟨"LineFrames$StreamReader", "takePresets", "(II)I"⟩ prog_10_method_16_code 5 (some .int) 2 9 := ⟨⟨Or.inl (List.mem_of_getElem? (i := 512) (by decide +kernel)), (List.mem_of_getElem? (i := 85) (by decide +kernel)), (List.mem_of_getElem? (i := 515) (by decide +kernel)), by decide, by decide +kernel⟩, (List.mem_of_getElem? (i := 514) (by decide +kernel)), (List.mem_of_getElem? (i := 8) (by decide +kernel)), _, rfl, rfl⟩
theorem mv_SR_191 : MV "LineFrames$StreamReader" 191 ⟨"LineFrames$StreamReader", "takeTable", "(II)I"⟩ prog_10_method_17_code 6 (some .int) 2 9 := ⟨⟨Or.inl (List.mem_of_getElem? (i := 520) (by decide +kernel)), (List.mem_of_getElem? (i := 85) (by decide +kernel)), (List.mem_of_getElem? (i := 523) (by decide +kernel)), by decide, by decide +kernel⟩, (List.mem_of_getElem? (i := 522) (by decide +kernel)), (List.mem_of_getElem? (i := 9) (by decide +kernel)), _, rfl, rfl⟩
theorem mv_SR_220 : MV "LineFrames$StreamReader" 220 ⟨"LineFrames$StreamReader", "faultOfPart", "(IIII)I"⟩ prog_10_method_20_code 7 (some .int) 4 9 := ⟨⟨Or.inl (List.mem_of_getElem? (i := 553) (by decide +kernel)), (List.mem_of_getElem? (i := 85) (by decide +kernel)), (List.mem_of_getElem? (i := 556) (by decide +kernel)), by decide, by decide +kernel⟩, (List.mem_of_getElem? (i := 555) (by decide +kernel)), (List.mem_of_getElem? (i := 12) (by decide +kernel)), _, rfl, rfl⟩
theorem fl_SR_54 : FL "LineFrames$StreamReader" 54 9 8 := ⟨_, rfl, by decide, rfl, by decide, Or.inl (List.mem_of_getElem? (i := 342) (by decide +kernel))⟩
theorem fw_9_8 : FW 9 8 .int := ⟨_, rfl, rfl, by decide +kernel⟩
theorem fl_SR_57 : FL "LineFrames$StreamReader" 57 9 9 := ⟨_, rfl, by decide, rfl, by decide, Or.inl (List.mem_of_getElem? (i := 343) (by decide +kernel))⟩
theorem fw_9_9 : FW 9 9 .int := ⟨_, rfl, rfl, by decide +kernel⟩
theorem fl_SR_60 : FL "LineFrames$StreamReader" 60 9 10 := ⟨_, rfl, by decide, rfl, by decide, Or.inl (List.mem_of_getElem? (i := 344) (by decide +kernel))⟩
theorem fw_9_10 : FW 9 10 .int := ⟨_, rfl, rfl, by decide +kernel⟩
theorem fl_SR_63 : FL "LineFrames$StreamReader" 63 9 11 := ⟨_, rfl, by decide, rfl, by decide, Or.inl (List.mem_of_getElem? (i := 346) (by decide +kernel))⟩
theorem fw_9_11 : FW 9 11 .int := ⟨_, rfl, rfl, by decide +kernel⟩
theorem fl_SR_165 : FL "LineFrames$StreamReader" 165 7 4 := ⟨_, rfl, by decide, rfl, by decide, Or.inr ⟨"LineFrames", (List.mem_of_getElem? (i := 163) (by decide +kernel))⟩⟩
theorem mv_SR_169 : MV "LineFrames$StreamReader" 169 ⟨"LineFrames$Notes", "full", "()Z"⟩ prog_7_method_3_code 1 (some .boolean) 0 6 := ⟨⟨Or.inl (List.mem_of_getElem? (i := 561) (by decide +kernel)), (List.mem_of_getElem? (i := 80) (by decide +kernel)), (List.mem_of_getElem? (i := 564) (by decide +kernel)), by decide, by decide +kernel⟩, (List.mem_of_getElem? (i := 562) (by decide +kernel)), (List.mem_of_getElem? (i := 563) (by decide +kernel)), _, rfl, rfl⟩
theorem mv_SR_174 : MV "LineFrames$StreamReader" 174 ⟨"LineFrames$Notes", "open", "(I)I"⟩ prog_7_method_8_code 3 (some .int) 1 6 := ⟨⟨Or.inl (List.mem_of_getElem? (i := 565) (by decide +kernel)), (List.mem_of_getElem? (i := 80) (by decide +kernel)), (List.mem_of_getElem? (i := 568) (by decide +kernel)), by decide, by decide +kernel⟩, (List.mem_of_getElem? (i := 566) (by decide +kernel)), (List.mem_of_getElem? (i := 567) (by decide +kernel)), _, rfl, rfl⟩
theorem mv_SR_177 : MV "LineFrames$StreamReader" 177 ⟨"LineFrames$Notes", "append", "(II)I"⟩ prog_7_method_9_code 4 (some .int) 2 6 := ⟨⟨Or.inl (List.mem_of_getElem? (i := 570) (by decide +kernel)), (List.mem_of_getElem? (i := 80) (by decide +kernel)), (List.mem_of_getElem? (i := 573) (by decide +kernel)), by decide, by decide +kernel⟩, (List.mem_of_getElem? (i := 571) (by decide +kernel)), (List.mem_of_getElem? (i := 572) (by decide +kernel)), _, rfl, rfl⟩
theorem mv_SR_159 : MV "LineFrames$StreamReader" 159 ⟨"LineFrames$StreamReader", "takeScan", "(II)I"⟩ prog_10_method_19_code 7 (some .int) 2 9 := ⟨⟨Or.inl (List.mem_of_getElem? (i := 549) (by decide +kernel)), (List.mem_of_getElem? (i := 85) (by decide +kernel)), (List.mem_of_getElem? (i := 552) (by decide +kernel)), by decide, by decide +kernel⟩, (List.mem_of_getElem? (i := 551) (by decide +kernel)), (List.mem_of_getElem? (i := 11) (by decide +kernel)), _, rfl, rfl⟩
theorem mv_SR_156 : MV "LineFrames$StreamReader" 156 ⟨"LineFrames$StreamReader", "takeRestarts", "(II)I"⟩ prog_10_method_18_code 4 (some .int) 2 9 := ⟨⟨Or.inl (List.mem_of_getElem? (i := 545) (by decide +kernel)), (List.mem_of_getElem? (i := 85) (by decide +kernel)), (List.mem_of_getElem? (i := 548) (by decide +kernel)), by decide, by decide +kernel⟩, (List.mem_of_getElem? (i := 547) (by decide +kernel)), (List.mem_of_getElem? (i := 10) (by decide +kernel)), _, rfl, rfl⟩
theorem mv_SR_149 : MV "LineFrames$StreamReader" 149 ⟨"LineFrames$StreamReader", "takeFrame", "(II)I"⟩ prog_10_method_14_code 9 (some .int) 2 9 := ⟨⟨Or.inl (List.mem_of_getElem? (i := 500) (by decide +kernel)), (List.mem_of_getElem? (i := 85) (by decide +kernel)), (List.mem_of_getElem? (i := 503) (by decide +kernel)), by decide, by decide +kernel⟩, (List.mem_of_getElem? (i := 502) (by decide +kernel)), (List.mem_of_getElem? (i := 6) (by decide +kernel)), _, rfl, rfl⟩
theorem mv_SR_153 : MV "LineFrames$StreamReader" 153 ⟨"LineFrames$StreamReader", "takePresetsOrTable", "(II)I"⟩ prog_10_method_15_code 3 (some .int) 2 9 := ⟨⟨Or.inl (List.mem_of_getElem? (i := 508) (by decide +kernel)), (List.mem_of_getElem? (i := 85) (by decide +kernel)), (List.mem_of_getElem? (i := 511) (by decide +kernel)), by decide, by decide +kernel⟩, (List.mem_of_getElem? (i := 510) (by decide +kernel)), (List.mem_of_getElem? (i := 7) (by decide +kernel)), _, rfl, rfl⟩
theorem mv_SR_162 : MV "LineFrames$StreamReader" 162 ⟨"LineFrames$StreamReader", "takeNote", "(III)I"⟩ prog_10_method_13_code 6 (some .int) 3 9 := ⟨⟨Or.inl (List.mem_of_getElem? (i := 557) (by decide +kernel)), (List.mem_of_getElem? (i := 85) (by decide +kernel)), (List.mem_of_getElem? (i := 560) (by decide +kernel)), by decide, by decide +kernel⟩, (List.mem_of_getElem? (i := 559) (by decide +kernel)), (List.mem_of_getElem? (i := 13) (by decide +kernel)), _, rfl, rfl⟩
theorem fl_MD_39 : FL "LineFrames$Model" 39 5 8 := ⟨_, rfl, by decide, rfl, by decide, Or.inl (List.mem_of_getElem? (i := 235) (by decide +kernel))⟩
theorem mv_MD_63 : MV "LineFrames$Model" 63 ⟨"LineFrames$Row", "fill", "(I)V"⟩ prog_9_method_4_code 3 none 1 8 := ⟨⟨Or.inl (List.mem_of_getElem? (i := 593) (by decide +kernel)), (List.mem_of_getElem? (i := 79) (by decide +kernel)), (List.mem_of_getElem? (i := 419) (by decide +kernel)), by decide, by decide +kernel⟩, (List.mem_of_getElem? (i := 417) (by decide +kernel)), (List.mem_of_getElem? (i := 418) (by decide +kernel)), _, rfl, rfl⟩
theorem mv_MD_45 : MV "LineFrames$Model" 45 ⟨"LineFrames$Picture", "top", "()I"⟩ prog_8_method_6_code 1 (some .int) 0 7 := ⟨⟨Or.inl (List.mem_of_getElem? (i := 583) (by decide +kernel)), (List.mem_of_getElem? (i := 78) (by decide +kernel)), (List.mem_of_getElem? (i := 527) (by decide +kernel)), by decide, by decide +kernel⟩, (List.mem_of_getElem? (i := 525) (by decide +kernel)), (List.mem_of_getElem? (i := 526) (by decide +kernel)), _, rfl, rfl⟩
theorem fw_5_3 : FW 5 3 .int := ⟨_, rfl, rfl, by decide +kernel⟩
theorem fw_5_4 : FW 5 4 .int := ⟨_, rfl, rfl, by decide +kernel⟩
theorem fw_5_5 : FW 5 5 .int := ⟨_, rfl, rfl, by decide +kernel⟩
theorem fw_5_6 : FW 5 6 .int := ⟨_, rfl, rfl, by decide +kernel⟩
theorem fl_MD_54 : FL "LineFrames$Model" 54 7 1 := ⟨_, rfl, by decide, rfl, by decide, Or.inr ⟨"LineFrames", (List.mem_of_getElem? (i := 154) (by decide +kernel))⟩⟩
theorem fw_5_7 : FW 5 7 .int := ⟨_, rfl, rfl, by decide +kernel⟩
theorem fw_5_8 : FW 5 8 .int := ⟨_, rfl, rfl, by decide +kernel⟩
theorem mv_MD_60 : MV "LineFrames$Model" 60 ⟨"LineFrames$Model", "renew", "()V"⟩ prog_6_method_3_code 1 none 0 5 := ⟨⟨Or.inl (List.mem_of_getElem? (i := 589) (by decide +kernel)), (List.mem_of_getElem? (i := 83) (by decide +kernel)), (List.mem_of_getElem? (i := 592) (by decide +kernel)), by decide, by decide +kernel⟩, (List.mem_of_getElem? (i := 590) (by decide +kernel)), (List.mem_of_getElem? (i := 591) (by decide +kernel)), _, rfl, rfl⟩
theorem fl_SR_81 : FL "LineFrames$StreamReader" 81 9 3 := ⟨_, rfl, by decide, rfl, by decide, Or.inl (List.mem_of_getElem? (i := 336) (by decide +kernel))⟩
theorem tg_9_3 (k : Nat) (h : Is k 9) : Is (wtg k 3) 2 := (show ∀ k, k < wN → wkd k = 9 → wtg k 3 < wN ∧ wkd (wtg k 3) = 2 by decide +kernel) k h.1 h.2
theorem mv_SR_240 : MV "LineFrames$StreamReader" 240 ⟨"LineFrames$BitSource", "close", "()V"⟩ prog_3_method_5_code 2 none 0 2 := ⟨⟨Or.inl (List.mem_of_getElem? (i := 602) (by decide +kernel)), (List.mem_of_getElem? (i := 87) (by decide +kernel)), (List.mem_of_getElem? (i := 605) (by decide +kernel)), by decide, by decide +kernel⟩, (List.mem_of_getElem? (i := 603) (by decide +kernel)), (List.mem_of_getElem? (i := 604) (by decide +kernel)), _, rfl, rfl⟩
theorem mv_SR_246 : MV "LineFrames$StreamReader" 246 ⟨"LineFrames$BitSource", "next", "()I"⟩ prog_3_method_3_code 1 (some .int) 0 2 := ⟨⟨Or.inl (List.mem_of_getElem? (i := 610) (by decide +kernel)), (List.mem_of_getElem? (i := 87) (by decide +kernel)), (List.mem_of_getElem? (i := 613) (by decide +kernel)), by decide, by decide +kernel⟩, (List.mem_of_getElem? (i := 611) (by decide +kernel)), (List.mem_of_getElem? (i := 612) (by decide +kernel)), _, rfl, rfl⟩
theorem fl_SR_34 : FL "LineFrames$StreamReader" 34 9 4 := ⟨_, rfl, by decide, rfl, by decide, Or.inl (List.mem_of_getElem? (i := 337) (by decide +kernel))⟩
theorem tg_9_4 (k : Nat) (h : Is k 9) : Is (wtg k 4) 5 := (show ∀ k, k < wN → wkd k = 9 → wtg k 4 < wN ∧ wkd (wtg k 4) = 5 by decide +kernel) k h.1 h.2
theorem mv_SR_248 : MV "LineFrames$StreamReader" 248 ⟨"LineFrames$Model", "renew", "()V"⟩ prog_6_method_3_code 1 none 0 5 := ⟨⟨Or.inl (List.mem_of_getElem? (i := 614) (by decide +kernel)), (List.mem_of_getElem? (i := 83) (by decide +kernel)), (List.mem_of_getElem? (i := 592) (by decide +kernel)), by decide, by decide +kernel⟩, (List.mem_of_getElem? (i := 590) (by decide +kernel)), (List.mem_of_getElem? (i := 591) (by decide +kernel)), _, rfl, rfl⟩
theorem mv_SR_228 : MV "LineFrames$StreamReader" 228 ⟨"LineFrames$BitSource", "begin", "(I)V"⟩ prog_3_method_2_code 2 none 1 2 := ⟨⟨Or.inl (List.mem_of_getElem? (i := 594) (by decide +kernel)), (List.mem_of_getElem? (i := 87) (by decide +kernel)), (List.mem_of_getElem? (i := 597) (by decide +kernel)), by decide, by decide +kernel⟩, (List.mem_of_getElem? (i := 595) (by decide +kernel)), (List.mem_of_getElem? (i := 596) (by decide +kernel)), _, rfl, rfl⟩
theorem mv_BO_52 : MV "LineFrames$BitSource" 52 ⟨"LineFrames$Fault", "met", "()Z"⟩ prog_5_method_4_code 1 (some .boolean) 0 4 := ⟨⟨Or.inl (List.mem_of_getElem? (i := 640) (by decide +kernel)), (List.mem_of_getElem? (i := 86) (by decide +kernel)), (List.mem_of_getElem? (i := 440) (by decide +kernel)), by decide, by decide +kernel⟩, (List.mem_of_getElem? (i := 438) (by decide +kernel)), (List.mem_of_getElem? (i := 439) (by decide +kernel)), _, rfl, rfl⟩
theorem mv_BO_56 : MV "LineFrames$BitSource" 56 ⟨"LineFrames$BitSource", "fetch", "()V"⟩ prog_3_method_7_code 2 none 0 2 := ⟨⟨Or.inl (List.mem_of_getElem? (i := 641) (by decide +kernel)), (List.mem_of_getElem? (i := 87) (by decide +kernel)), (List.mem_of_getElem? (i := 644) (by decide +kernel)), by decide, by decide +kernel⟩, (List.mem_of_getElem? (i := 643) (by decide +kernel)), (List.mem_of_getElem? (i := 19) (by decide +kernel)), _, rfl, rfl⟩
theorem mv_BO_29 : MV "LineFrames$BitSource" 29 ⟨"LineFrames$BitSource", "bits", "(I)I"⟩ prog_3_method_6_code 4 (some .int) 1 2 := ⟨⟨Or.inl (List.mem_of_getElem? (i := 636) (by decide +kernel)), (List.mem_of_getElem? (i := 87) (by decide +kernel)), (List.mem_of_getElem? (i := 639) (by decide +kernel)), by decide, by decide +kernel⟩, (List.mem_of_getElem? (i := 638) (by decide +kernel)), (List.mem_of_getElem? (i := 18) (by decide +kernel)), _, rfl, rfl⟩
theorem fl_SR_251 : FL "LineFrames$StreamReader" 251 7 5 := ⟨_, rfl, by decide, rfl, by decide, Or.inr ⟨"LineFrames", (List.mem_of_getElem? (i := 167) (by decide +kernel))⟩⟩
theorem mv_SR_254 : MV "LineFrames$StreamReader" 254 ⟨"LineFrames$Model", "foretell", "(IIIZ)I"⟩ prog_6_method_4_code 9 (some .int) 4 5 := ⟨⟨Or.inl (List.mem_of_getElem? (i := 619) (by decide +kernel)), (List.mem_of_getElem? (i := 83) (by decide +kernel)), (List.mem_of_getElem? (i := 622) (by decide +kernel)), by decide, by decide +kernel⟩, (List.mem_of_getElem? (i := 620) (by decide +kernel)), (List.mem_of_getElem? (i := 621) (by decide +kernel)), _, rfl, rfl⟩
theorem mv_SR_258 : MV "LineFrames$StreamReader" 258 ⟨"LineFrames$Model", "shift", "(I)I"⟩ prog_6_method_5_code 5 (some .int) 1 5 := ⟨⟨Or.inl (List.mem_of_getElem? (i := 628) (by decide +kernel)), (List.mem_of_getElem? (i := 83) (by decide +kernel)), (List.mem_of_getElem? (i := 631) (by decide +kernel)), by decide, by decide +kernel⟩, (List.mem_of_getElem? (i := 629) (by decide +kernel)), (List.mem_of_getElem? (i := 630) (by decide +kernel)), _, rfl, rfl⟩
theorem mv_SR_261 : MV "LineFrames$StreamReader" 261 ⟨"LineFrames$BitSource", "code", "(I)I"⟩ prog_3_method_4_code 3 (some .int) 1 2 := ⟨⟨Or.inl (List.mem_of_getElem? (i := 632) (by decide +kernel)), (List.mem_of_getElem? (i := 87) (by decide +kernel)), (List.mem_of_getElem? (i := 635) (by decide +kernel)), by decide, by decide +kernel⟩, (List.mem_of_getElem? (i := 633) (by decide +kernel)), (List.mem_of_getElem? (i := 634) (by decide +kernel)), _, rfl, rfl⟩
theorem ms_SR_264 : MS "LineFrames$StreamReader" 264 ⟨"LineFrames", "placeOf", "(III)I"⟩ prog_1_method_22_code 3 (some .int) 3 := ⟨⟨Or.inr ⟨"LineFrames", (List.mem_of_getElem? (i := 645) (by decide +kernel))⟩, (List.mem_of_getElem? (i := 76) (by decide +kernel)), (List.mem_of_getElem? (i := 625) (by decide +kernel)), by decide, by decide +kernel⟩, (List.mem_of_getElem? (i := 624) (by decide +kernel))⟩
theorem mv_SR_267 : MV "LineFrames$StreamReader" 267 ⟨"LineFrames$Model", "untell", "(IIII)V"⟩ prog_6_method_7_code 7 none 4 5 := ⟨⟨Or.inl (List.mem_of_getElem? (i := 646) (by decide +kernel)), (List.mem_of_getElem? (i := 83) (by decide +kernel)), (List.mem_of_getElem? (i := 649) (by decide +kernel)), by decide, by decide +kernel⟩, (List.mem_of_getElem? (i := 647) (by decide +kernel)), (List.mem_of_getElem? (i := 648) (by decide +kernel)), _, rfl, rfl⟩
theorem mv_SR_224 : MV "LineFrames$StreamReader" 224 ⟨"LineFrames$Model", "begin", "(LLineFrames$Picture;I)V"⟩ prog_6_method_2_code 3 none 2 5 := ⟨⟨Or.inl (List.mem_of_getElem? (i := 579) (by decide +kernel)), (List.mem_of_getElem? (i := 83) (by decide +kernel)), (List.mem_of_getElem? (i := 582) (by decide +kernel)), by decide, by decide +kernel⟩, (List.mem_of_getElem? (i := 580) (by decide +kernel)), (List.mem_of_getElem? (i := 581) (by decide +kernel)), _, rfl, rfl⟩
theorem fl_SR_230 : FL "LineFrames$StreamReader" 230 7 6 := ⟨_, rfl, by decide, rfl, by decide, Or.inr ⟨"LineFrames", (List.mem_of_getElem? (i := 171) (by decide +kernel))⟩⟩
theorem mv_SR_236 : MV "LineFrames$StreamReader" 236 ⟨"LineFrames$StreamReader", "takeRow", "(IZ)V"⟩ prog_10_method_23_code 12 none 2 9 := ⟨⟨Or.inl (List.mem_of_getElem? (i := 615) (by decide +kernel)), (List.mem_of_getElem? (i := 85) (by decide +kernel)), (List.mem_of_getElem? (i := 618) (by decide +kernel)), by decide, by decide +kernel⟩, (List.mem_of_getElem? (i := 617) (by decide +kernel)), (List.mem_of_getElem? (i := 17) (by decide +kernel)), _, rfl, rfl⟩
theorem mv_SR_233 : MV "LineFrames$StreamReader" 233 ⟨"LineFrames$StreamReader", "passRestart", "(I)V"⟩ prog_10_method_22_code 3 none 1 9 := ⟨⟨Or.inl (List.mem_of_getElem? (i := 598) (by decide +kernel)), (List.mem_of_getElem? (i := 85) (by decide +kernel)), (List.mem_of_getElem? (i := 601) (by decide +kernel)), by decide, by decide +kernel⟩, (List.mem_of_getElem? (i := 600) (by decide +kernel)), (List.mem_of_getElem? (i := 16) (by decide +kernel)), _, rfl, rfl⟩
theorem mv_SR_243 : MV "LineFrames$StreamReader" 243 ⟨"LineFrames$StreamReader", "endScan", "()V"⟩ prog_10_method_24_code 2 none 0 9 := ⟨⟨Or.inl (List.mem_of_getElem? (i := 662) (by decide +kernel)), (List.mem_of_getElem? (i := 85) (by decide +kernel)), (List.mem_of_getElem? (i := 665) (by decide +kernel)), by decide, by decide +kernel⟩, (List.mem_of_getElem? (i := 664) (by decide +kernel)), (List.mem_of_getElem? (i := 22) (by decide +kernel)), _, rfl, rfl⟩
theorem mv_SR_96 : MV "LineFrames$StreamReader" 96 ⟨"LineFrames$StreamReader", "markAt", "(I)I"⟩ prog_10_method_5_code 3 (some .int) 1 9 := ⟨⟨Or.inl (List.mem_of_getElem? (i := 445) (by decide +kernel)), (List.mem_of_getElem? (i := 85) (by decide +kernel)), (List.mem_of_getElem? (i := 448) (by decide +kernel)), by decide, by decide +kernel⟩, (List.mem_of_getElem? (i := 447) (by decide +kernel)), (List.mem_of_getElem? (i := 0) (by decide +kernel)), _, rfl, rfl⟩
theorem mv_SR_103 : MV "LineFrames$StreamReader" 103 ⟨"LineFrames$StreamReader", "lengthAt", "(I)I"⟩ prog_10_method_11_code 3 (some .int) 1 9 := ⟨⟨Or.inl (List.mem_of_getElem? (i := 487) (by decide +kernel)), (List.mem_of_getElem? (i := 85) (by decide +kernel)), (List.mem_of_getElem? (i := 490) (by decide +kernel)), by decide, by decide +kernel⟩, (List.mem_of_getElem? (i := 489) (by decide +kernel)), (List.mem_of_getElem? (i := 4) (by decide +kernel)), _, rfl, rfl⟩
theorem mv_SR_106 : MV "LineFrames$StreamReader" 106 ⟨"LineFrames$StreamReader", "take", "(III)I"⟩ prog_10_method_12_code 4 (some .int) 3 9 := ⟨⟨Or.inl (List.mem_of_getElem? (i := 496) (by decide +kernel)), (List.mem_of_getElem? (i := 85) (by decide +kernel)), (List.mem_of_getElem? (i := 499) (by decide +kernel)), by decide, by decide +kernel⟩, (List.mem_of_getElem? (i := 498) (by decide +kernel)), (List.mem_of_getElem? (i := 5) (by decide +kernel)), _, rfl, rfl⟩
theorem mv_SR_114 : MV "LineFrames$StreamReader" 114 ⟨"LineFrames$StreamReader", "data", "()V"⟩ prog_10_method_21_code 5 none 0 9 := ⟨⟨Or.inl (List.mem_of_getElem? (i := 575) (by decide +kernel)), (List.mem_of_getElem? (i := 85) (by decide +kernel)), (List.mem_of_getElem? (i := 578) (by decide +kernel)), by decide, by decide +kernel⟩, (List.mem_of_getElem? (i := 577) (by decide +kernel)), (List.mem_of_getElem? (i := 14) (by decide +kernel)), _, rfl, rfl⟩
theorem mv_SR_100 : MV "LineFrames$StreamReader" 100 ⟨"LineFrames$StreamReader", "end", "()V"⟩ prog_10_method_10_code 1 none 0 9 := ⟨⟨Or.inl (List.mem_of_getElem? (i := 479) (by decide +kernel)), (List.mem_of_getElem? (i := 85) (by decide +kernel)), (List.mem_of_getElem? (i := 482) (by decide +kernel)), by decide, by decide +kernel⟩, (List.mem_of_getElem? (i := 481) (by decide +kernel)), (List.mem_of_getElem? (i := 3) (by decide +kernel)), _, rfl, rfl⟩
theorem mv_LF_206 : MV "LineFrames" 206 ⟨"LineFrames$StreamReader", "begin", "()V"⟩ prog_10_method_2_code 1 none 0 9 := ⟨⟨Or.inl (List.mem_of_getElem? (i := 404) (by decide +kernel)), (List.mem_of_getElem? (i := 85) (by decide +kernel)), (List.mem_of_getElem? (i := 407) (by decide +kernel)), by decide, by decide +kernel⟩, (List.mem_of_getElem? (i := 405) (by decide +kernel)), (List.mem_of_getElem? (i := 406) (by decide +kernel)), _, rfl, rfl⟩
theorem mv_LF_209 : MV "LineFrames" 209 ⟨"LineFrames$StreamReader", "ended", "()Z"⟩ prog_10_method_3_code 1 (some .boolean) 0 9 := ⟨⟨Or.inl (List.mem_of_getElem? (i := 433) (by decide +kernel)), (List.mem_of_getElem? (i := 85) (by decide +kernel)), (List.mem_of_getElem? (i := 436) (by decide +kernel)), by decide, by decide +kernel⟩, (List.mem_of_getElem? (i := 434) (by decide +kernel)), (List.mem_of_getElem? (i := 435) (by decide +kernel)), _, rfl, rfl⟩
theorem mv_LF_212 : MV "LineFrames" 212 ⟨"LineFrames$StreamReader", "step", "()V"⟩ prog_10_method_4_code 5 none 0 9 := ⟨⟨Or.inl (List.mem_of_getElem? (i := 441) (by decide +kernel)), (List.mem_of_getElem? (i := 85) (by decide +kernel)), (List.mem_of_getElem? (i := 444) (by decide +kernel)), by decide, by decide +kernel⟩, (List.mem_of_getElem? (i := 442) (by decide +kernel)), (List.mem_of_getElem? (i := 443) (by decide +kernel)), _, rfl, rfl⟩
theorem mv_LF_229 : MV "LineFrames" 229 ⟨"LineFrames$Fault", "place", "()I"⟩ prog_5_method_6_code 1 (some .int) 0 4 := ⟨⟨Or.inl (List.mem_of_getElem? (i := 666) (by decide +kernel)), (List.mem_of_getElem? (i := 86) (by decide +kernel)), (List.mem_of_getElem? (i := 669) (by decide +kernel)), by decide, by decide +kernel⟩, (List.mem_of_getElem? (i := 667) (by decide +kernel)), (List.mem_of_getElem? (i := 668) (by decide +kernel)), _, rfl, rfl⟩
theorem ms_LF_57 : MS "LineFrames" 57 ⟨"LineFrames$Picture", "mayMeasure", "(IIII)Z"⟩ prog_8_method_2_code 4 (some .boolean) 4 := ⟨⟨Or.inl (List.mem_of_getElem? (i := 702) (by decide +kernel)), (List.mem_of_getElem? (i := 78) (by decide +kernel)), (List.mem_of_getElem? (i := 506) (by decide +kernel)), by decide, by decide +kernel⟩, (List.mem_of_getElem? (i := 505) (by decide +kernel))⟩
theorem mv_LF_68 : MV "LineFrames" 68 ⟨"LineFrames$Picture", "clear", "()V"⟩ prog_8_method_4_code 1 none 0 7 := ⟨⟨Or.inl (List.mem_of_getElem? (i := 772) (by decide +kernel)), (List.mem_of_getElem? (i := 78) (by decide +kernel)), (List.mem_of_getElem? (i := 411) (by decide +kernel)), by decide, by decide +kernel⟩, (List.mem_of_getElem? (i := 409) (by decide +kernel)), (List.mem_of_getElem? (i := 410) (by decide +kernel)), _, rfl, rfl⟩
theorem mv_LF_71 : MV "LineFrames" 71 ⟨"LineFrames$Picture", "measure", "(IIII)V"⟩ prog_8_method_5_code 5 none 4 7 := ⟨⟨Or.inl (List.mem_of_getElem? (i := 773) (by decide +kernel)), (List.mem_of_getElem? (i := 78) (by decide +kernel)), (List.mem_of_getElem? (i := 415) (by decide +kernel)), by decide, by decide +kernel⟩, (List.mem_of_getElem? (i := 413) (by decide +kernel)), (List.mem_of_getElem? (i := 414) (by decide +kernel)), _, rfl, rfl⟩
theorem mv_LF_120 : MV "LineFrames" 120 ⟨"LineFrames$Picture", "hasComponent", "(I)Z"⟩ prog_8_method_8_code 2 (some .boolean) 1 7 := ⟨⟨Or.inl (List.mem_of_getElem? (i := 849) (by decide +kernel)), (List.mem_of_getElem? (i := 78) (by decide +kernel)), (List.mem_of_getElem? (i := 531) (by decide +kernel)), by decide, by decide +kernel⟩, (List.mem_of_getElem? (i := 529) (by decide +kernel)), (List.mem_of_getElem? (i := 530) (by decide +kernel)), _, rfl, rfl⟩
theorem mv_LF_138 : MV "LineFrames" 138 ⟨"LineFrames$Picture", "setNumber", "(III)V"⟩ prog_8_method_13_code 4 none 3 7 := ⟨⟨Or.inl (List.mem_of_getElem? (i := 859) (by decide +kernel)), (List.mem_of_getElem? (i := 78) (by decide +kernel)), (List.mem_of_getElem? (i := 544) (by decide +kernel)), by decide, by decide +kernel⟩, (List.mem_of_getElem? (i := 542) (by decide +kernel)), (List.mem_of_getElem? (i := 543) (by decide +kernel)), _, rfl, rfl⟩
theorem mv_LF_134 : MV "LineFrames" 134 ⟨"LineFrames$Picture", "openTable", "(I)V"⟩ prog_8_method_11_code 3 none 1 7 := ⟨⟨Or.inl (List.mem_of_getElem? (i := 858) (by decide +kernel)), (List.mem_of_getElem? (i := 78) (by decide +kernel)), (List.mem_of_getElem? (i := 540) (by decide +kernel)), by decide, by decide +kernel⟩, (List.mem_of_getElem? (i := 538) (by decide +kernel)), (List.mem_of_getElem? (i := 539) (by decide +kernel)), _, rfl, rfl⟩
theorem fl_SW_81 : FL "LineFrames$StreamWriter" 81 7 4 := ⟨_, rfl, by decide, rfl, by decide, Or.inr ⟨"LineFrames", (List.mem_of_getElem? (i := 161) (by decide +kernel))⟩⟩
theorem mv_SW_85 : MV "LineFrames$StreamWriter" 85 ⟨"LineFrames$Notes", "count", "()I"⟩ prog_7_method_2_code 1 (some .int) 0 6 := ⟨⟨Or.inl (List.mem_of_getElem? (i := 934) (by decide +kernel)), (List.mem_of_getElem? (i := 80) (by decide +kernel)), (List.mem_of_getElem? (i := 677) (by decide +kernel)), by decide, by decide +kernel⟩, (List.mem_of_getElem? (i := 675) (by decide +kernel)), (List.mem_of_getElem? (i := 676) (by decide +kernel)), _, rfl, rfl⟩
theorem mv_SW_91 : MV "LineFrames$StreamWriter" 91 ⟨"LineFrames$Notes", "kindOf", "(I)I"⟩ prog_7_method_5_code 2 (some .int) 1 6 := ⟨⟨Or.inl (List.mem_of_getElem? (i := 935) (by decide +kernel)), (List.mem_of_getElem? (i := 80) (by decide +kernel)), (List.mem_of_getElem? (i := 938) (by decide +kernel)), by decide, by decide +kernel⟩, (List.mem_of_getElem? (i := 936) (by decide +kernel)), (List.mem_of_getElem? (i := 937) (by decide +kernel)), _, rfl, rfl⟩
theorem mv_SW_95 : MV "LineFrames$StreamWriter" 95 ⟨"LineFrames$Notes", "sizeOf", "(I)I"⟩ prog_7_method_6_code 2 (some .int) 1 6 := ⟨⟨Or.inl (List.mem_of_getElem? (i := 939) (by decide +kernel)), (List.mem_of_getElem? (i := 80) (by decide +kernel)), (List.mem_of_getElem? (i := 906) (by decide +kernel)), by decide, by decide +kernel⟩, (List.mem_of_getElem? (i := 904) (by decide +kernel)), (List.mem_of_getElem? (i := 905) (by decide +kernel)), _, rfl, rfl⟩
theorem mv_SW_102 : MV "LineFrames$StreamWriter" 102 ⟨"LineFrames$Notes", "byteIn", "(II)I"⟩ prog_7_method_7_code 3 (some .int) 2 6 := ⟨⟨Or.inl (List.mem_of_getElem? (i := 949) (by decide +kernel)), (List.mem_of_getElem? (i := 80) (by decide +kernel)), (List.mem_of_getElem? (i := 952) (by decide +kernel)), by decide, by decide +kernel⟩, (List.mem_of_getElem? (i := 950) (by decide +kernel)), (List.mem_of_getElem? (i := 951) (by decide +kernel)), _, rfl, rfl⟩
theorem fl_SW_65 : FL "LineFrames$StreamWriter" 65 7 8 := ⟨_, rfl, by decide, rfl, by decide, Or.inr ⟨"LineFrames", (List.mem_of_getElem? (i := 176) (by decide +kernel))⟩⟩
theorem fl_SW_106 : FL "LineFrames$StreamWriter" 106 7 7 := ⟨_, rfl, by decide, rfl, by decide, Or.inr ⟨"LineFrames", (List.mem_of_getElem? (i := 173) (by decide +kernel))⟩⟩
theorem fl_SW_108 : FL "LineFrames$StreamWriter" 108 7 6 := ⟨_, rfl, by decide, rfl, by decide, Or.inr ⟨"LineFrames", (List.mem_of_getElem? (i := 169) (by decide +kernel))⟩⟩
theorem fl_SW_111 : FL "LineFrames$StreamWriter" 111 7 5 := ⟨_, rfl, by decide, rfl, by decide, Or.inr ⟨"LineFrames", (List.mem_of_getElem? (i := 165) (by decide +kernel))⟩⟩
theorem mv_SW_121 : MV "LineFrames$StreamWriter" 121 ⟨"LineFrames$Picture", "top", "()I"⟩ prog_8_method_6_code 1 (some .int) 0 7 := ⟨⟨Or.inl (List.mem_of_getElem? (i := 966) (by decide +kernel)), (List.mem_of_getElem? (i := 78) (by decide +kernel)), (List.mem_of_getElem? (i := 527) (by decide +kernel)), by decide, by decide +kernel⟩, (List.mem_of_getElem? (i := 525) (by decide +kernel)), (List.mem_of_getElem? (i := 526) (by decide +kernel)), _, rfl, rfl⟩
theorem mv_SW_124 : MV "LineFrames$StreamWriter" 124 ⟨"LineFrames$Picture", "hasTable", "(I)Z"⟩ prog_8_method_10_code 2 (some .boolean) 1 7 := ⟨⟨Or.inl (List.mem_of_getElem? (i := 967) (by decide +kernel)), (List.mem_of_getElem? (i := 78) (by decide +kernel)), (List.mem_of_getElem? (i := 535) (by decide +kernel)), by decide, by decide +kernel⟩, (List.mem_of_getElem? (i := 533) (by decide +kernel)), (List.mem_of_getElem? (i := 534) (by decide +kernel)), _, rfl, rfl⟩
theorem mv_SW_128 : MV "LineFrames$StreamWriter" 128 ⟨"LineFrames$Picture", "numberOf", "(II)I"⟩ prog_8_method_12_code 3 (some .int) 2 7 := ⟨⟨Or.inl (List.mem_of_getElem? (i := 968) (by decide +kernel)), (List.mem_of_getElem? (i := 78) (by decide +kernel)), (List.mem_of_getElem? (i := 857) (by decide +kernel)), by decide, by decide +kernel⟩, (List.mem_of_getElem? (i := 855) (by decide +kernel)), (List.mem_of_getElem? (i := 856) (by decide +kernel)), _, rfl, rfl⟩
theorem mv_BK_22 : MV "LineFrames$BitSink" 22 ⟨"LineFrames$BitSink", "bits", "(II)V"⟩ prog_2_method_4_code 4 none 2 1 := ⟨⟨Or.inl (List.mem_of_getElem? (i := 1007) (by decide +kernel)), (List.mem_of_getElem? (i := 84) (by decide +kernel)), (List.mem_of_getElem? (i := 1010) (by decide +kernel)), by decide, by decide +kernel⟩, (List.mem_of_getElem? (i := 1009) (by decide +kernel)), (List.mem_of_getElem? (i := 36) (by decide +kernel)), _, rfl, rfl⟩
theorem ms_SW_152 : MS "LineFrames$StreamWriter" 152 ⟨"LineFrames", "placeOf", "(III)I"⟩ prog_1_method_22_code 3 (some .int) 3 := ⟨⟨Or.inr ⟨"LineFrames", (List.mem_of_getElem? (i := 996) (by decide +kernel))⟩, (List.mem_of_getElem? (i := 76) (by decide +kernel)), (List.mem_of_getElem? (i := 625) (by decide +kernel)), by decide, by decide +kernel⟩, (List.mem_of_getElem? (i := 624) (by decide +kernel))⟩
theorem fl_SW_19 : FL "LineFrames$StreamWriter" 19 10 2 := ⟨_, rfl, by decide, rfl, by decide, Or.inl (List.mem_of_getElem? (i := 273) (by decide +kernel))⟩
theorem tg_10_2 (k : Nat) (h : Is k 10) : Is (wtg k 2) 5 := (show ∀ k, k < wN → wkd k = 10 → wtg k 2 < wN ∧ wkd (wtg k 2) = 5 by decide +kernel) k h.1 h.2
theorem mv_SW_156 : MV "LineFrames$StreamWriter" 156 ⟨"LineFrames$Model", "foretell", "(IIIZ)I"⟩ prog_6_method_4_code 9 (some .int) 4 5 := ⟨⟨Or.inl (List.mem_of_getElem? (i := 997) (by decide +kernel)), (List.mem_of_getElem? (i := 83) (by decide +kernel)), (List.mem_of_getElem? (i := 622) (by decide +kernel)), by decide, by decide +kernel⟩, (List.mem_of_getElem? (i := 620) (by decide +kernel)), (List.mem_of_getElem? (i := 621) (by decide +kernel)), _, rfl, rfl⟩
theorem mv_SW_160 : MV "LineFrames$StreamWriter" 160 ⟨"LineFrames$Model", "shift", "(I)I"⟩ prog_6_method_5_code 5 (some .int) 1 5 := ⟨⟨Or.inl (List.mem_of_getElem? (i := 998) (by decide +kernel)), (List.mem_of_getElem? (i := 83) (by decide +kernel)), (List.mem_of_getElem? (i := 631) (by decide +kernel)), by decide, by decide +kernel⟩, (List.mem_of_getElem? (i := 629) (by decide +kernel)), (List.mem_of_getElem? (i := 630) (by decide +kernel)), _, rfl, rfl⟩
theorem fl_SW_163 : FL "LineFrames$StreamWriter" 163 7 0 := ⟨_, rfl, by decide, rfl, by decide, Or.inr ⟨"LineFrames", (List.mem_of_getElem? (i := 152) (by decide +kernel))⟩⟩
theorem mv_SW_166 : MV "LineFrames$StreamWriter" 166 ⟨"LineFrames$Model", "tell", "(IIII)I"⟩ prog_6_method_6_code 7 (some .int) 4 5 := ⟨⟨Or.inl (List.mem_of_getElem? (i := 999) (by decide +kernel)), (List.mem_of_getElem? (i := 83) (by decide +kernel)), (List.mem_of_getElem? (i := 1002) (by decide +kernel)), by decide, by decide +kernel⟩, (List.mem_of_getElem? (i := 1000) (by decide +kernel)), (List.mem_of_getElem? (i := 1001) (by decide +kernel)), _, rfl, rfl⟩
theorem fl_SW_38 : FL "LineFrames$StreamWriter" 38 10 3 := ⟨_, rfl, by decide, rfl, by decide, Or.inl (List.mem_of_getElem? (i := 274) (by decide +kernel))⟩
theorem tg_10_3 (k : Nat) (h : Is k 10) : Is (wtg k 3) 1 := (show ∀ k, k < wN → wkd k = 10 → wtg k 3 < wN ∧ wkd (wtg k 3) = 1 by decide +kernel) k h.1 h.2
theorem mv_SW_170 : MV "LineFrames$StreamWriter" 170 ⟨"LineFrames$BitSink", "code", "(II)V"⟩ prog_2_method_2_code 4 none 2 1 := ⟨⟨Or.inl (List.mem_of_getElem? (i := 1003) (by decide +kernel)), (List.mem_of_getElem? (i := 84) (by decide +kernel)), (List.mem_of_getElem? (i := 1006) (by decide +kernel)), by decide, by decide +kernel⟩, (List.mem_of_getElem? (i := 1004) (by decide +kernel)), (List.mem_of_getElem? (i := 1005) (by decide +kernel)), _, rfl, rfl⟩
theorem mv_SW_148 : MV "LineFrames$StreamWriter" 148 ⟨"LineFrames$StreamWriter", "addSample", "(IIIZ)V"⟩ prog_11_method_13_code 9 none 4 10 := ⟨⟨Or.inl (List.mem_of_getElem? (i := 992) (by decide +kernel)), (List.mem_of_getElem? (i := 82) (by decide +kernel)), (List.mem_of_getElem? (i := 995) (by decide +kernel)), by decide, by decide +kernel⟩, (List.mem_of_getElem? (i := 994) (by decide +kernel)), (List.mem_of_getElem? (i := 35) (by decide +kernel)), _, rfl, rfl⟩
theorem mv_SW_131 : MV "LineFrames$StreamWriter" 131 ⟨"LineFrames$StreamWriter", "addScanHead", "(IIII)V"⟩ prog_11_method_11_code 6 none 4 10 := ⟨⟨Or.inl (List.mem_of_getElem? (i := 977) (by decide +kernel)), (List.mem_of_getElem? (i := 82) (by decide +kernel)), (List.mem_of_getElem? (i := 980) (by decide +kernel)), by decide, by decide +kernel⟩, (List.mem_of_getElem? (i := 979) (by decide +kernel)), (List.mem_of_getElem? (i := 33) (by decide +kernel)), _, rfl, rfl⟩
theorem mv_SW_134 : MV "LineFrames$StreamWriter" 134 ⟨"LineFrames$Model", "begin", "(LLineFrames$Picture;I)V"⟩ prog_6_method_2_code 3 none 2 5 := ⟨⟨Or.inl (List.mem_of_getElem? (i := 981) (by decide +kernel)), (List.mem_of_getElem? (i := 83) (by decide +kernel)), (List.mem_of_getElem? (i := 582) (by decide +kernel)), by decide, by decide +kernel⟩, (List.mem_of_getElem? (i := 580) (by decide +kernel)), (List.mem_of_getElem? (i := 581) (by decide +kernel)), _, rfl, rfl⟩
theorem mv_SW_144 : MV "LineFrames$StreamWriter" 144 ⟨"LineFrames$StreamWriter", "addRow", "(IIIIZ)V"⟩ prog_11_method_12_code 11 none 5 10 := ⟨⟨Or.inl (List.mem_of_getElem? (i := 988) (by decide +kernel)), (List.mem_of_getElem? (i := 82) (by decide +kernel)), (List.mem_of_getElem? (i := 991) (by decide +kernel)), by decide, by decide +kernel⟩, (List.mem_of_getElem? (i := 990) (by decide +kernel)), (List.mem_of_getElem? (i := 34) (by decide +kernel)), _, rfl, rfl⟩
theorem mv_SW_138 : MV "LineFrames$StreamWriter" 138 ⟨"LineFrames$BitSink", "close", "()V"⟩ prog_2_method_3_code 1 none 0 1 := ⟨⟨Or.inl (List.mem_of_getElem? (i := 982) (by decide +kernel)), (List.mem_of_getElem? (i := 84) (by decide +kernel)), (List.mem_of_getElem? (i := 985) (by decide +kernel)), by decide, by decide +kernel⟩, (List.mem_of_getElem? (i := 983) (by decide +kernel)), (List.mem_of_getElem? (i := 984) (by decide +kernel)), _, rfl, rfl⟩
theorem mv_SW_141 : MV "LineFrames$StreamWriter" 141 ⟨"LineFrames$Model", "renew", "()V"⟩ prog_6_method_3_code 1 none 0 5 := ⟨⟨Or.inl (List.mem_of_getElem? (i := 987) (by decide +kernel)), (List.mem_of_getElem? (i := 83) (by decide +kernel)), (List.mem_of_getElem? (i := 592) (by decide +kernel)), by decide, by decide +kernel⟩, (List.mem_of_getElem? (i := 590) (by decide +kernel)), (List.mem_of_getElem? (i := 591) (by decide +kernel)), _, rfl, rfl⟩
theorem mv_SW_42 : MV "LineFrames$StreamWriter" 42 ⟨"LineFrames$Bytes", "clear", "()V"⟩ prog_4_method_10_code 1 none 0 3 := ⟨⟨Or.inl (List.mem_of_getElem? (i := 921) (by decide +kernel)), (List.mem_of_getElem? (i := 81) (by decide +kernel)), (List.mem_of_getElem? (i := 690) (by decide +kernel)), by decide, by decide +kernel⟩, (List.mem_of_getElem? (i := 688) (by decide +kernel)), (List.mem_of_getElem? (i := 689) (by decide +kernel)), _, rfl, rfl⟩
theorem mv_SW_50 : MV "LineFrames$StreamWriter" 50 ⟨"LineFrames$StreamWriter", "addNotes", "()V"⟩ prog_11_method_5_code 6 none 0 10 := ⟨⟨Or.inl (List.mem_of_getElem? (i := 930) (by decide +kernel)), (List.mem_of_getElem? (i := 82) (by decide +kernel)), (List.mem_of_getElem? (i := 933) (by decide +kernel)), by decide, by decide +kernel⟩, (List.mem_of_getElem? (i := 932) (by decide +kernel)), (List.mem_of_getElem? (i := 26) (by decide +kernel)), _, rfl, rfl⟩
theorem mv_SW_53 : MV "LineFrames$StreamWriter" 53 ⟨"LineFrames$StreamWriter", "addFrame", "()V"⟩ prog_11_method_6_code 2 none 0 10 := ⟨⟨Or.inl (List.mem_of_getElem? (i := 953) (by decide +kernel)), (List.mem_of_getElem? (i := 82) (by decide +kernel)), (List.mem_of_getElem? (i := 956) (by decide +kernel)), by decide, by decide +kernel⟩, (List.mem_of_getElem? (i := 955) (by decide +kernel)), (List.mem_of_getElem? (i := 28) (by decide +kernel)), _, rfl, rfl⟩
theorem mv_SW_56 : MV "LineFrames$StreamWriter" 56 ⟨"LineFrames$StreamWriter", "addPresets", "()V"⟩ prog_11_method_7_code 3 none 0 10 := ⟨⟨Or.inl (List.mem_of_getElem? (i := 957) (by decide +kernel)), (List.mem_of_getElem? (i := 82) (by decide +kernel)), (List.mem_of_getElem? (i := 960) (by decide +kernel)), by decide, by decide +kernel⟩, (List.mem_of_getElem? (i := 959) (by decide +kernel)), (List.mem_of_getElem? (i := 29) (by decide +kernel)), _, rfl, rfl⟩
theorem mv_SW_59 : MV "LineFrames$StreamWriter" 59 ⟨"LineFrames$StreamWriter", "addTables", "()V"⟩ prog_11_method_8_code 4 none 0 10 := ⟨⟨Or.inl (List.mem_of_getElem? (i := 962) (by decide +kernel)), (List.mem_of_getElem? (i := 82) (by decide +kernel)), (List.mem_of_getElem? (i := 965) (by decide +kernel)), by decide, by decide +kernel⟩, (List.mem_of_getElem? (i := 964) (by decide +kernel)), (List.mem_of_getElem? (i := 30) (by decide +kernel)), _, rfl, rfl⟩
theorem mv_SW_62 : MV "LineFrames$StreamWriter" 62 ⟨"LineFrames$StreamWriter", "addRestarts", "()V"⟩ prog_11_method_9_code 2 none 0 10 := ⟨⟨Or.inl (List.mem_of_getElem? (i := 969) (by decide +kernel)), (List.mem_of_getElem? (i := 82) (by decide +kernel)), (List.mem_of_getElem? (i := 972) (by decide +kernel)), by decide, by decide +kernel⟩, (List.mem_of_getElem? (i := 971) (by decide +kernel)), (List.mem_of_getElem? (i := 31) (by decide +kernel)), _, rfl, rfl⟩
theorem mv_SW_71 : MV "LineFrames$StreamWriter" 71 ⟨"LineFrames$StreamWriter", "scan", "(IIII)V"⟩ prog_11_method_10_code 9 none 4 10 := ⟨⟨Or.inl (List.mem_of_getElem? (i := 973) (by decide +kernel)), (List.mem_of_getElem? (i := 82) (by decide +kernel)), (List.mem_of_getElem? (i := 976) (by decide +kernel)), by decide, by decide +kernel⟩, (List.mem_of_getElem? (i := 975) (by decide +kernel)), (List.mem_of_getElem? (i := 32) (by decide +kernel)), _, rfl, rfl⟩
theorem fl_LF_44 : FL "LineFrames" 44 0 4 := ⟨_, rfl, by decide, rfl, by decide, Or.inl (List.mem_of_getElem? (i := 385) (by decide +kernel))⟩
theorem tg_0_4 (k : Nat) (h : Is k 0) : Is (wtg k 4) 10 := (show ∀ k, k < wN → wkd k = 0 → wtg k 4 < wN ∧ wkd (wtg k 4) = 10 by decide +kernel) k h.1 h.2
theorem mv_LF_180 : MV "LineFrames" 180 ⟨"LineFrames$StreamWriter", "stream", "(II)V"⟩ prog_11_method_2_code 4 none 2 10 := ⟨⟨Or.inl (List.mem_of_getElem? (i := 917) (by decide +kernel)), (List.mem_of_getElem? (i := 82) (by decide +kernel)), (List.mem_of_getElem? (i := 920) (by decide +kernel)), by decide, by decide +kernel⟩, (List.mem_of_getElem? (i := 918) (by decide +kernel)), (List.mem_of_getElem? (i := 919) (by decide +kernel)), _, rfl, rfl⟩
theorem mm_LF_9 : MM "LineFrames" 9 Lib.Math.min.name Lib.Math.min.code 2 := ⟨(List.mem_of_getElem? (i := 104) (by decide +kernel)), (List.mem_of_getElem? (i := 105) (by decide +kernel)), (List.mem_of_getElem? (i := 77) (by decide +kernel)), (List.mem_of_getElem? (i := 106) (by decide +kernel))⟩
theorem mv_RM_97 : MV "LineFramesModel" 97 ⟨"LineFramesModel", "fails", "(I)I"⟩ prog_13_method_4_code 2 (some .int) 1 11 := ⟨⟨Or.inl (List.mem_of_getElem? (i := 1298) (by decide +kernel)), (List.mem_of_getElem? (i := 88) (by decide +kernel)), (List.mem_of_getElem? (i := 1301) (by decide +kernel)), by decide, by decide +kernel⟩, (List.mem_of_getElem? (i := 1300) (by decide +kernel)), (List.mem_of_getElem? (i := 38) (by decide +kernel)), _, rfl, rfl⟩
theorem fw_11_2 : FW 11 2 .int := ⟨_, rfl, rfl, by decide +kernel⟩
theorem fw_11_3 : FW 11 3 .int := ⟨_, rfl, rfl, by decide +kernel⟩
theorem fw_11_4 : FW 11 4 .int := ⟨_, rfl, rfl, by decide +kernel⟩
theorem fw_11_5 : FW 11 5 .int := ⟨_, rfl, rfl, by decide +kernel⟩
theorem fl_RM_13 : FL "LineFramesModel" 13 11 7 := ⟨_, rfl, by decide, rfl, by decide, Or.inl (List.mem_of_getElem? (i := 1097) (by decide +kernel))⟩
theorem tg_11_7 (k : Nat) (h : Is k 11) : Is (wtg k 7) 101 := (show ∀ k, k < wN → wkd k = 11 → wtg k 7 < wN ∧ wkd (wtg k 7) = 101 by decide +kernel) k h.1 h.2
end
section
theorem fw_11_12 : FW 11 12 .int := ⟨_, rfl, rfl, by decide +kernel⟩
theorem fl_RM_17 : FL "LineFramesModel" 17 11 8 := ⟨_, rfl, by decide, rfl, by decide, Or.inl (List.mem_of_getElem? (i := 1098) (by decide +kernel))⟩
theorem tg_11_8 (k : Nat) (h : Is k 11) : Is (wtg k 8) 100 := (show ∀ k, k < wN → wkd k = 11 → wtg k 8 < wN ∧ wkd (wtg k 8) = 100 by decide +kernel) k h.1 h.2
theorem fl_RM_26 : FL "LineFramesModel" 26 11 15 := ⟨_, rfl, by decide, rfl, by decide, Or.inl (List.mem_of_getElem? (i := 1105) (by decide +kernel))⟩
theorem tg_11_15 (k : Nat) (h : Is k 11) : Is (wtg k 15) 100 := (show ∀ k, k < wN → wkd k = 11 → wtg k 15 < wN ∧ wkd (wtg k 15) = 100 by decide +kernel) k h.1 h.2
theorem fw_11_17 : FW 11 17 .int := ⟨_, rfl, rfl, by decide +kernel⟩
theorem mv_RM_149 : MV "LineFramesModel" 149 ⟨"LineFramesModel", "lay", "(I)V"⟩ prog_13_method_20_code 2 none 1 11 := ⟨⟨Or.inl (List.mem_of_getElem? (i := 1334) (by decide +kernel)), (List.mem_of_getElem? (i := 88) (by decide +kernel)), (List.mem_of_getElem? (i := 1337) (by decide +kernel)), by decide, by decide +kernel⟩, (List.mem_of_getElem? (i := 1336) (by decide +kernel)), (List.mem_of_getElem? (i := 40) (by decide +kernel)), _, rfl, rfl⟩
theorem mv_RM_153 : MV "LineFramesModel" 153 ⟨"LineFramesModel", "layWide", "(I)V"⟩ prog_13_method_21_code 2 none 1 11 := ⟨⟨Or.inl (List.mem_of_getElem? (i := 1342) (by decide +kernel)), (List.mem_of_getElem? (i := 88) (by decide +kernel)), (List.mem_of_getElem? (i := 1345) (by decide +kernel)), by decide, by decide +kernel⟩, (List.mem_of_getElem? (i := 1344) (by decide +kernel)), (List.mem_of_getElem? (i := 42) (by decide +kernel)), _, rfl, rfl⟩
theorem fw_11_56 : FW 11 56 .int := ⟨_, rfl, rfl, by decide +kernel⟩
theorem fl_RM_80 : FL "LineFramesModel" 80 11 52 := ⟨_, rfl, by decide, rfl, by decide, Or.inl (List.mem_of_getElem? (i := 1142) (by decide +kernel))⟩
theorem tg_11_52 (k : Nat) (h : Is k 11) : Is (wtg k 52) 100 := (show ∀ k, k < wN → wkd k = 11 → wtg k 52 < wN ∧ wkd (wtg k 52) = 100 by decide +kernel) k h.1 h.2
theorem fl_RM_156 : FL "LineFramesModel" 156 11 57 := ⟨_, rfl, by decide, rfl, by decide, Or.inl (List.mem_of_getElem? (i := 1147) (by decide +kernel))⟩
theorem fw_11_57 : FW 11 57 .int := ⟨_, rfl, rfl, by decide +kernel⟩
theorem fl_RM_159 : FL "LineFramesModel" 159 11 58 := ⟨_, rfl, by decide, rfl, by decide, Or.inl (List.mem_of_getElem? (i := 1148) (by decide +kernel))⟩
theorem fw_11_58 : FW 11 58 .int := ⟨_, rfl, rfl, by decide +kernel⟩
theorem fl_RM_162 : FL "LineFramesModel" 162 11 59 := ⟨_, rfl, by decide, rfl, by decide, Or.inl (List.mem_of_getElem? (i := 1149) (by decide +kernel))⟩
theorem fw_11_59 : FW 11 59 .int := ⟨_, rfl, rfl, by decide +kernel⟩
theorem mv_RM_165 : MV "LineFramesModel" 165 ⟨"LineFramesModel", "bit", "(I)V"⟩ prog_13_method_23_code 2 none 1 11 := ⟨⟨Or.inl (List.mem_of_getElem? (i := 1382) (by decide +kernel)), (List.mem_of_getElem? (i := 88) (by decide +kernel)), (List.mem_of_getElem? (i := 1385) (by decide +kernel)), by decide, by decide +kernel⟩, (List.mem_of_getElem? (i := 1384) (by decide +kernel)), (List.mem_of_getElem? (i := 52) (by decide +kernel)), _, rfl, rfl⟩
theorem mv_RM_168 : MV "LineFramesModel" 168 ⟨"LineFramesModel", "foretold", "(III)I"⟩ prog_13_method_16_code 10 (some .int) 3 11 := ⟨⟨Or.inl (List.mem_of_getElem? (i := 1362) (by decide +kernel)), (List.mem_of_getElem? (i := 88) (by decide +kernel)), (List.mem_of_getElem? (i := 1365) (by decide +kernel)), by decide, by decide +kernel⟩, (List.mem_of_getElem? (i := 1364) (by decide +kernel)), (List.mem_of_getElem? (i := 47) (by decide +kernel)), _, rfl, rfl⟩
theorem mv_RM_172 : MV "LineFramesModel" 172 ⟨"LineFramesModel", "clipped", "(I)I"⟩ prog_13_method_17_code 2 (some .int) 1 11 := ⟨⟨Or.inl (List.mem_of_getElem? (i := 1370) (by decide +kernel)), (List.mem_of_getElem? (i := 88) (by decide +kernel)), (List.mem_of_getElem? (i := 1373) (by decide +kernel)), by decide, by decide +kernel⟩, (List.mem_of_getElem? (i := 1372) (by decide +kernel)), (List.mem_of_getElem? (i := 49) (by decide +kernel)), _, rfl, rfl⟩
theorem mv_RM_175 : MV "LineFramesModel" 175 ⟨"LineFramesModel", "range", "()I"⟩ prog_13_method_14_code 1 (some .int) 0 11 := ⟨⟨Or.inl (List.mem_of_getElem? (i := 1374) (by decide +kernel)), (List.mem_of_getElem? (i := 88) (by decide +kernel)), (List.mem_of_getElem? (i := 1377) (by decide +kernel)), by decide, by decide +kernel⟩, (List.mem_of_getElem? (i := 1376) (by decide +kernel)), (List.mem_of_getElem? (i := 50) (by decide +kernel)), _, rfl, rfl⟩
theorem mv_RM_178 : MV "LineFramesModel" 178 ⟨"LineFramesModel", "lengthOf", "(I)I"⟩ prog_13_method_18_code 3 (some .int) 1 11 := ⟨⟨Or.inl (List.mem_of_getElem? (i := 1378) (by decide +kernel)), (List.mem_of_getElem? (i := 88) (by decide +kernel)), (List.mem_of_getElem? (i := 1381) (by decide +kernel)), by decide, by decide +kernel⟩, (List.mem_of_getElem? (i := 1380) (by decide +kernel)), (List.mem_of_getElem? (i := 51) (by decide +kernel)), _, rfl, rfl⟩
theorem mv_RM_185 : MV "LineFramesModel" 185 ⟨"LineFramesModel", "count", "(III)V"⟩ prog_13_method_19_code 4 none 3 11 := ⟨⟨Or.inl (List.mem_of_getElem? (i := 1390) (by decide +kernel)), (List.mem_of_getElem? (i := 88) (by decide +kernel)), (List.mem_of_getElem? (i := 1393) (by decide +kernel)), by decide, by decide +kernel⟩, (List.mem_of_getElem? (i := 1392) (by decide +kernel)), (List.mem_of_getElem? (i := 54) (by decide +kernel)), _, rfl, rfl⟩
theorem mv_RM_181 : MV "LineFramesModel" 181 ⟨"LineFramesModel", "lowBits", "(II)V"⟩ prog_13_method_24_code 4 none 2 11 := ⟨⟨Or.inl (List.mem_of_getElem? (i := 1386) (by decide +kernel)), (List.mem_of_getElem? (i := 88) (by decide +kernel)), (List.mem_of_getElem? (i := 1389) (by decide +kernel)), by decide, by decide +kernel⟩, (List.mem_of_getElem? (i := 1388) (by decide +kernel)), (List.mem_of_getElem? (i := 53) (by decide +kernel)), _, rfl, rfl⟩
theorem mv_RM_189 : MV "LineFramesModel" 189 ⟨"LineFramesModel", "begin", "(II)V"⟩ prog_13_method_15_code 4 none 2 11 := ⟨⟨Or.inl (List.mem_of_getElem? (i := 1354) (by decide +kernel)), (List.mem_of_getElem? (i := 88) (by decide +kernel)), (List.mem_of_getElem? (i := 1357) (by decide +kernel)), by decide, by decide +kernel⟩, (List.mem_of_getElem? (i := 1356) (by decide +kernel)), (List.mem_of_getElem? (i := 45) (by decide +kernel)), _, rfl, rfl⟩
theorem mv_RM_195 : MV "LineFramesModel" 195 ⟨"LineFramesModel", "fill", "()V"⟩ prog_13_method_25_code 1 none 0 11 := ⟨⟨Or.inl (List.mem_of_getElem? (i := 1394) (by decide +kernel)), (List.mem_of_getElem? (i := 88) (by decide +kernel)), (List.mem_of_getElem? (i := 1397) (by decide +kernel)), by decide, by decide +kernel⟩, (List.mem_of_getElem? (i := 1396) (by decide +kernel)), (List.mem_of_getElem? (i := 55) (by decide +kernel)), _, rfl, rfl⟩
theorem mv_RM_192 : MV "LineFramesModel" 192 ⟨"LineFramesModel", "tell", "(III)V"⟩ prog_13_method_26_code 12 none 3 11 := ⟨⟨Or.inl (List.mem_of_getElem? (i := 1358) (by decide +kernel)), (List.mem_of_getElem? (i := 88) (by decide +kernel)), (List.mem_of_getElem? (i := 1361) (by decide +kernel)), by decide, by decide +kernel⟩, (List.mem_of_getElem? (i := 1360) (by decide +kernel)), (List.mem_of_getElem? (i := 46) (by decide +kernel)), _, rfl, rfl⟩
theorem mv_RM_198 : MV "LineFramesModel" 198 ⟨"LineFramesModel", "mark", "(II)V"⟩ prog_13_method_22_code 3 none 2 11 := ⟨⟨Or.inl (List.mem_of_getElem? (i := 1338) (by decide +kernel)), (List.mem_of_getElem? (i := 88) (by decide +kernel)), (List.mem_of_getElem? (i := 1341) (by decide +kernel)), by decide, by decide +kernel⟩, (List.mem_of_getElem? (i := 1340) (by decide +kernel)), (List.mem_of_getElem? (i := 41) (by decide +kernel)), _, rfl, rfl⟩
theorem mv_RM_201 : MV "LineFramesModel" 201 ⟨"LineFramesModel", "data", "(III)V"⟩ prog_13_method_27_code 8 none 3 11 := ⟨⟨Or.inl (List.mem_of_getElem? (i := 1350) (by decide +kernel)), (List.mem_of_getElem? (i := 88) (by decide +kernel)), (List.mem_of_getElem? (i := 1353) (by decide +kernel)), by decide, by decide +kernel⟩, (List.mem_of_getElem? (i := 1352) (by decide +kernel)), (List.mem_of_getElem? (i := 44) (by decide +kernel)), _, rfl, rfl⟩
theorem fw_11_54 : FW 11 54 .int := ⟨_, rfl, rfl, by decide +kernel⟩
theorem fw_11_55 : FW 11 55 .int := ⟨_, rfl, rfl, by decide +kernel⟩
theorem mv_RM_204 : MV "LineFramesModel" 204 ⟨"LineFramesModel", "scan", "(III)V"⟩ prog_13_method_28_code 5 none 3 11 := ⟨⟨Or.inl (List.mem_of_getElem? (i := 1346) (by decide +kernel)), (List.mem_of_getElem? (i := 88) (by decide +kernel)), (List.mem_of_getElem? (i := 1349) (by decide +kernel)), by decide, by decide +kernel⟩, (List.mem_of_getElem? (i := 1348) (by decide +kernel)), (List.mem_of_getElem? (i := 43) (by decide +kernel)), _, rfl, rfl⟩
theorem fw_11_30 : FW 11 30 .int := ⟨_, rfl, rfl, by decide +kernel⟩
theorem fw_11_31 : FW 11 31 .int := ⟨_, rfl, rfl, by decide +kernel⟩
theorem fl_RM_216 : FL "LineFramesModel" 216 11 32 := ⟨_, rfl, by decide, rfl, by decide, Or.inl (List.mem_of_getElem? (i := 1122) (by decide +kernel))⟩
theorem fw_11_32 : FW 11 32 .int := ⟨_, rfl, rfl, by decide +kernel⟩
theorem fl_RM_223 : FL "LineFramesModel" 223 11 33 := ⟨_, rfl, by decide, rfl, by decide, Or.inl (List.mem_of_getElem? (i := 1123) (by decide +kernel))⟩
theorem fw_11_33 : FW 11 33 .boolean := ⟨_, rfl, rfl, by decide +kernel⟩
theorem fl_RM_227 : FL "LineFramesModel" 227 11 37 := ⟨_, rfl, by decide, rfl, by decide, Or.inl (List.mem_of_getElem? (i := 1127) (by decide +kernel))⟩
theorem fw_11_37 : FW 11 37 .int := ⟨_, rfl, rfl, by decide +kernel⟩
theorem fl_RM_245 : FL "LineFramesModel" 245 11 38 := ⟨_, rfl, by decide, rfl, by decide, Or.inl (List.mem_of_getElem? (i := 1128) (by decide +kernel))⟩
theorem fw_11_38 : FW 11 38 .int := ⟨_, rfl, rfl, by decide +kernel⟩
theorem fl_RM_248 : FL "LineFramesModel" 248 11 39 := ⟨_, rfl, by decide, rfl, by decide, Or.inl (List.mem_of_getElem? (i := 1129) (by decide +kernel))⟩
theorem fw_11_39 : FW 11 39 .int := ⟨_, rfl, rfl, by decide +kernel⟩
theorem fl_RM_251 : FL "LineFramesModel" 251 11 40 := ⟨_, rfl, by decide, rfl, by decide, Or.inl (List.mem_of_getElem? (i := 1130) (by decide +kernel))⟩
theorem fw_11_40 : FW 11 40 .int := ⟨_, rfl, rfl, by decide +kernel⟩
theorem fl_RM_233 : FL "LineFramesModel" 233 11 41 := ⟨_, rfl, by decide, rfl, by decide, Or.inl (List.mem_of_getElem? (i := 1131) (by decide +kernel))⟩
theorem fw_11_41 : FW 11 41 .int := ⟨_, rfl, rfl, by decide +kernel⟩
theorem fl_RM_59 : FL "LineFramesModel" 59 11 45 := ⟨_, rfl, by decide, rfl, by decide, Or.inl (List.mem_of_getElem? (i := 1135) (by decide +kernel))⟩
theorem tg_11_45 (k : Nat) (h : Is k 11) : Is (wtg k 45) 101 := (show ∀ k, k < wN → wkd k = 11 → wtg k 45 < wN ∧ wkd (wtg k 45) = 101 by decide +kernel) k h.1 h.2
theorem fl_RM_74 : FL "LineFramesModel" 74 11 50 := ⟨_, rfl, by decide, rfl, by decide, Or.inl (List.mem_of_getElem? (i := 1140) (by decide +kernel))⟩
theorem tg_11_50 (k : Nat) (h : Is k 11) : Is (wtg k 50) 101 := (show ∀ k, k < wN → wkd k = 11 → wtg k 50 < wN ∧ wkd (wtg k 50) = 101 by decide +kernel) k h.1 h.2
theorem mv_RM_219 : MV "LineFramesModel" 219 ⟨"LineFramesModel", "broken", "(II)Z"⟩ prog_13_method_35_code 3 (some .boolean) 2 11 := ⟨⟨Or.inl (List.mem_of_getElem? (i := 1430) (by decide +kernel)), (List.mem_of_getElem? (i := 88) (by decide +kernel)), (List.mem_of_getElem? (i := 1433) (by decide +kernel)), by decide, by decide +kernel⟩, (List.mem_of_getElem? (i := 1432) (by decide +kernel)), (List.mem_of_getElem? (i := 58) (by decide +kernel)), _, rfl, rfl⟩
theorem mv_RM_230 : MV "LineFramesModel" 230 ⟨"LineFramesModel", "wide", "(I)I"⟩ prog_13_method_36_code 2 (some .int) 1 11 := ⟨⟨Or.inl (List.mem_of_getElem? (i := 1442) (by decide +kernel)), (List.mem_of_getElem? (i := 88) (by decide +kernel)), (List.mem_of_getElem? (i := 1445) (by decide +kernel)), by decide, by decide +kernel⟩, (List.mem_of_getElem? (i := 1444) (by decide +kernel)), (List.mem_of_getElem? (i := 61) (by decide +kernel)), _, rfl, rfl⟩
theorem fl_RM_236 : FL "LineFramesModel" 236 11 36 := ⟨_, rfl, by decide, rfl, by decide, Or.inl (List.mem_of_getElem? (i := 1126) (by decide +kernel))⟩
theorem fw_11_36 : FW 11 36 .int := ⟨_, rfl, rfl, by decide +kernel⟩
theorem fl_RM_239 : FL "LineFramesModel" 239 11 35 := ⟨_, rfl, by decide, rfl, by decide, Or.inl (List.mem_of_getElem? (i := 1125) (by decide +kernel))⟩
theorem fw_11_35 : FW 11 35 .int := ⟨_, rfl, rfl, by decide +kernel⟩
theorem fl_RM_242 : FL "LineFramesModel" 242 11 34 := ⟨_, rfl, by decide, rfl, by decide, Or.inl (List.mem_of_getElem? (i := 1124) (by decide +kernel))⟩
theorem fw_11_34 : FW 11 34 .int := ⟨_, rfl, rfl, by decide +kernel⟩
theorem fl_RM_62 : FL "LineFramesModel" 62 11 46 := ⟨_, rfl, by decide, rfl, by decide, Or.inl (List.mem_of_getElem? (i := 1136) (by decide +kernel))⟩
theorem tg_11_46 (k : Nat) (h : Is k 11) : Is (wtg k 46) 100 := (show ∀ k, k < wN → wkd k = 11 → wtg k 46 < wN ∧ wkd (wtg k 46) = 100 by decide +kernel) k h.1 h.2
theorem fl_RM_254 : FL "LineFramesModel" 254 11 42 := ⟨_, rfl, by decide, rfl, by decide, Or.inl (List.mem_of_getElem? (i := 1132) (by decide +kernel))⟩
theorem fw_11_42 : FW 11 42 .int := ⟨_, rfl, rfl, by decide +kernel⟩
theorem fl_RM_257 : FL "LineFramesModel" 257 11 43 := ⟨_, rfl, by decide, rfl, by decide, Or.inl (List.mem_of_getElem? (i := 1133) (by decide +kernel))⟩
theorem fw_11_43 : FW 11 43 .int := ⟨_, rfl, rfl, by decide +kernel⟩
theorem fl_RM_65 : FL "LineFramesModel" 65 11 47 := ⟨_, rfl, by decide, rfl, by decide, Or.inl (List.mem_of_getElem? (i := 1137) (by decide +kernel))⟩
theorem tg_11_47 (k : Nat) (h : Is k 11) : Is (wtg k 47) 100 := (show ∀ k, k < wN → wkd k = 11 → wtg k 47 < wN ∧ wkd (wtg k 47) = 100 by decide +kernel) k h.1 h.2
theorem fl_RM_68 : FL "LineFramesModel" 68 11 48 := ⟨_, rfl, by decide, rfl, by decide, Or.inl (List.mem_of_getElem? (i := 1138) (by decide +kernel))⟩
theorem tg_11_48 (k : Nat) (h : Is k 11) : Is (wtg k 48) 100 := (show ∀ k, k < wN → wkd k = 11 → wtg k 48 < wN ∧ wkd (wtg k 48) = 100 by decide +kernel) k h.1 h.2
theorem fl_RM_71 : FL "LineFramesModel" 71 11 49 := ⟨_, rfl, by decide, rfl, by decide, Or.inl (List.mem_of_getElem? (i := 1139) (by decide +kernel))⟩
theorem tg_11_49 (k : Nat) (h : Is k 11) : Is (wtg k 49) 100 := (show ∀ k, k < wN → wkd k = 11 → wtg k 49 < wN ∧ wkd (wtg k 49) = 100 by decide +kernel) k h.1 h.2
theorem fw_11_61 : FW 11 61 .int := ⟨_, rfl, rfl, by decide +kernel⟩
theorem fw_11_64 : FW 11 64 .boolean := ⟨_, rfl, rfl, by decide +kernel⟩
theorem fl_RM_272 : FL "LineFramesModel" 272 11 63 := ⟨_, rfl, by decide, rfl, by decide, Or.inl (List.mem_of_getElem? (i := 1153) (by decide +kernel))⟩
theorem fw_11_63 : FW 11 63 .int := ⟨_, rfl, rfl, by decide +kernel⟩
theorem fw_11_60 : FW 11 60 .int := ⟨_, rfl, rfl, by decide +kernel⟩
theorem mv_RM_275 : MV "LineFramesModel" 275 ⟨"LineFramesModel", "hear", "()I"⟩ prog_13_method_44_code 2 (some .int) 0 11 := ⟨⟨Or.inl (List.mem_of_getElem? (i := 1478) (by decide +kernel)), (List.mem_of_getElem? (i := 88) (by decide +kernel)), (List.mem_of_getElem? (i := 1481) (by decide +kernel)), by decide, by decide +kernel⟩, (List.mem_of_getElem? (i := 1480) (by decide +kernel)), (List.mem_of_getElem? (i := 70) (by decide +kernel)), _, rfl, rfl⟩
theorem mv_RM_278 : MV "LineFramesModel" 278 ⟨"LineFramesModel", "hearBits", "(I)I"⟩ prog_13_method_45_code 4 (some .int) 1 11 := ⟨⟨Or.inl (List.mem_of_getElem? (i := 1482) (by decide +kernel)), (List.mem_of_getElem? (i := 88) (by decide +kernel)), (List.mem_of_getElem? (i := 1485) (by decide +kernel)), by decide, by decide +kernel⟩, (List.mem_of_getElem? (i := 1484) (by decide +kernel)), (List.mem_of_getElem? (i := 71) (by decide +kernel)), _, rfl, rfl⟩
theorem mv_RM_284 : MV "LineFramesModel" 284 ⟨"LineFramesModel", "hearSample", "(III)V"⟩ prog_13_method_46_code 9 none 3 11 := ⟨⟨Or.inl (List.mem_of_getElem? (i := 1474) (by decide +kernel)), (List.mem_of_getElem? (i := 88) (by decide +kernel)), (List.mem_of_getElem? (i := 1477) (by decide +kernel)), by decide, by decide +kernel⟩, (List.mem_of_getElem? (i := 1476) (by decide +kernel)), (List.mem_of_getElem? (i := 69) (by decide +kernel)), _, rfl, rfl⟩
theorem mv_RM_287 : MV "LineFramesModel" 287 ⟨"LineFramesModel", "hearEnd", "()V"⟩ prog_13_method_47_code 2 none 0 11 := ⟨⟨Or.inl (List.mem_of_getElem? (i := 1486) (by decide +kernel)), (List.mem_of_getElem? (i := 88) (by decide +kernel)), (List.mem_of_getElem? (i := 1489) (by decide +kernel)), by decide, by decide +kernel⟩, (List.mem_of_getElem? (i := 1488) (by decide +kernel)), (List.mem_of_getElem? (i := 72) (by decide +kernel)), _, rfl, rfl⟩
theorem mv_RM_290 : MV "LineFramesModel" 290 ⟨"LineFramesModel", "hearRestart", "(II)V"⟩ prog_13_method_48_code 4 none 2 11 := ⟨⟨Or.inl (List.mem_of_getElem? (i := 1490) (by decide +kernel)), (List.mem_of_getElem? (i := 88) (by decide +kernel)), (List.mem_of_getElem? (i := 1493) (by decide +kernel)), by decide, by decide +kernel⟩, (List.mem_of_getElem? (i := 1492) (by decide +kernel)), (List.mem_of_getElem? (i := 73) (by decide +kernel)), _, rfl, rfl⟩
theorem mv_RM_293 : MV "LineFramesModel" 293 ⟨"LineFramesModel", "hearData", "(II)V"⟩ prog_13_method_49_code 9 none 2 11 := ⟨⟨Or.inl (List.mem_of_getElem? (i := 1470) (by decide +kernel)), (List.mem_of_getElem? (i := 88) (by decide +kernel)), (List.mem_of_getElem? (i := 1473) (by decide +kernel)), by decide, by decide +kernel⟩, (List.mem_of_getElem? (i := 1472) (by decide +kernel)), (List.mem_of_getElem? (i := 68) (by decide +kernel)), _, rfl, rfl⟩
theorem fl_RM_56 : FL "LineFramesModel" 56 11 44 := ⟨_, rfl, by decide, rfl, by decide, Or.inl (List.mem_of_getElem? (i := 1134) (by decide +kernel))⟩
theorem tg_11_44 (k : Nat) (h : Is k 11) : Is (wtg k 44) 100 := (show ∀ k, k < wN → wkd k = 11 → wtg k 44 < wN ∧ wkd (wtg k 44) = 100 by decide +kernel) k h.1 h.2
theorem mv_RM_299 : MV "LineFramesModel" 299 ⟨"LineFramesModel", "isSegment", "()Z"⟩ prog_13_method_38_code 1 (some .boolean) 0 11 := ⟨⟨Or.inl (List.mem_of_getElem? (i := 1438) (by decide +kernel)), (List.mem_of_getElem? (i := 88) (by decide +kernel)), (List.mem_of_getElem? (i := 1441) (by decide +kernel)), by decide, by decide +kernel⟩, (List.mem_of_getElem? (i := 1440) (by decide +kernel)), (List.mem_of_getElem? (i := 60) (by decide +kernel)), _, rfl, rfl⟩
theorem mv_RM_318 : MV "LineFramesModel" 318 ⟨"LineFramesModel", "takeScan", "()V"⟩ prog_13_method_50_code 5 none 0 11 := ⟨⟨Or.inl (List.mem_of_getElem? (i := 1466) (by decide +kernel)), (List.mem_of_getElem? (i := 88) (by decide +kernel)), (List.mem_of_getElem? (i := 1469) (by decide +kernel)), by decide, by decide +kernel⟩, (List.mem_of_getElem? (i := 1468) (by decide +kernel)), (List.mem_of_getElem? (i := 67) (by decide +kernel)), _, rfl, rfl⟩
theorem mv_RM_315 : MV "LineFramesModel" 315 ⟨"LineFramesModel", "isNote", "()Z"⟩ prog_13_method_39_code 3 (some .boolean) 0 11 := ⟨⟨Or.inl (List.mem_of_getElem? (i := 1462) (by decide +kernel)), (List.mem_of_getElem? (i := 88) (by decide +kernel)), (List.mem_of_getElem? (i := 1465) (by decide +kernel)), by decide, by decide +kernel⟩, (List.mem_of_getElem? (i := 1464) (by decide +kernel)), (List.mem_of_getElem? (i := 66) (by decide +kernel)), _, rfl, rfl⟩
theorem mv_RM_312 : MV "LineFramesModel" 312 ⟨"LineFramesModel", "isScan", "()Z"⟩ prog_13_method_43_code 6 (some .boolean) 0 11 := ⟨⟨Or.inl (List.mem_of_getElem? (i := 1458) (by decide +kernel)), (List.mem_of_getElem? (i := 88) (by decide +kernel)), (List.mem_of_getElem? (i := 1461) (by decide +kernel)), by decide, by decide +kernel⟩, (List.mem_of_getElem? (i := 1460) (by decide +kernel)), (List.mem_of_getElem? (i := 65) (by decide +kernel)), _, rfl, rfl⟩
theorem mv_RM_309 : MV "LineFramesModel" 309 ⟨"LineFramesModel", "isRestart", "()Z"⟩ prog_13_method_42_code 1 (some .boolean) 0 11 := ⟨⟨Or.inl (List.mem_of_getElem? (i := 1454) (by decide +kernel)), (List.mem_of_getElem? (i := 88) (by decide +kernel)), (List.mem_of_getElem? (i := 1457) (by decide +kernel)), by decide, by decide +kernel⟩, (List.mem_of_getElem? (i := 1456) (by decide +kernel)), (List.mem_of_getElem? (i := 64) (by decide +kernel)), _, rfl, rfl⟩
theorem mv_RM_306 : MV "LineFramesModel" 306 ⟨"LineFramesModel", "isPreset", "()Z"⟩ prog_13_method_41_code 6 (some .boolean) 0 11 := ⟨⟨Or.inl (List.mem_of_getElem? (i := 1450) (by decide +kernel)), (List.mem_of_getElem? (i := 88) (by decide +kernel)), (List.mem_of_getElem? (i := 1453) (by decide +kernel)), by decide, by decide +kernel⟩, (List.mem_of_getElem? (i := 1452) (by decide +kernel)), (List.mem_of_getElem? (i := 63) (by decide +kernel)), _, rfl, rfl⟩
theorem mv_RM_303 : MV "LineFramesModel" 303 ⟨"LineFramesModel", "isFrame", "()Z"⟩ prog_13_method_40_code 4 (some .boolean) 0 11 := ⟨⟨Or.inl (List.mem_of_getElem? (i := 1446) (by decide +kernel)), (List.mem_of_getElem? (i := 88) (by decide +kernel)), (List.mem_of_getElem? (i := 1449) (by decide +kernel)), by decide, by decide +kernel⟩, (List.mem_of_getElem? (i := 1448) (by decide +kernel)), (List.mem_of_getElem? (i := 62) (by decide +kernel)), _, rfl, rfl⟩
theorem fl_RM_38 : FL "LineFramesModel" 38 11 22 := ⟨_, rfl, by decide, rfl, by decide, Or.inl (List.mem_of_getElem? (i := 1112) (by decide +kernel))⟩
theorem tg_11_22 (k : Nat) (h : Is k 11) : Is (wtg k 22) 100 := (show ∀ k, k < wN → wkd k = 11 → wtg k 22 < wN ∧ wkd (wtg k 22) = 100 by decide +kernel) k h.1 h.2
theorem fl_RM_44 : FL "LineFramesModel" 44 11 24 := ⟨_, rfl, by decide, rfl, by decide, Or.inl (List.mem_of_getElem? (i := 1114) (by decide +kernel))⟩
theorem tg_11_24 (k : Nat) (h : Is k 11) : Is (wtg k 24) 100 := (show ∀ k, k < wN → wkd k = 11 → wtg k 24 < wN ∧ wkd (wtg k 24) = 100 by decide +kernel) k h.1 h.2
theorem fl_RM_41 : FL "LineFramesModel" 41 11 23 := ⟨_, rfl, by decide, rfl, by decide, Or.inl (List.mem_of_getElem? (i := 1113) (by decide +kernel))⟩
theorem tg_11_23 (k : Nat) (h : Is k 11) : Is (wtg k 23) 101 := (show ∀ k, k < wN → wkd k = 11 → wtg k 23 < wN ∧ wkd (wtg k 23) = 101 by decide +kernel) k h.1 h.2
theorem fl_RM_47 : FL "LineFramesModel" 47 11 25 := ⟨_, rfl, by decide, rfl, by decide, Or.inl (List.mem_of_getElem? (i := 1115) (by decide +kernel))⟩
theorem tg_11_25 (k : Nat) (h : Is k 11) : Is (wtg k 25) 100 := (show ∀ k, k < wN → wkd k = 11 → wtg k 25 < wN ∧ wkd (wtg k 25) = 100 by decide +kernel) k h.1 h.2
theorem fl_RM_50 : FL "LineFramesModel" 50 11 26 := ⟨_, rfl, by decide, rfl, by decide, Or.inl (List.mem_of_getElem? (i := 1116) (by decide +kernel))⟩
theorem tg_11_26 (k : Nat) (h : Is k 11) : Is (wtg k 26) 100 := (show ∀ k, k < wN → wkd k = 11 → wtg k 26 < wN ∧ wkd (wtg k 26) = 100 by decide +kernel) k h.1 h.2
theorem fl_RM_53 : FL "LineFramesModel" 53 11 27 := ⟨_, rfl, by decide, rfl, by decide, Or.inl (List.mem_of_getElem? (i := 1117) (by decide +kernel))⟩
theorem tg_11_27 (k : Nat) (h : Is k 11) : Is (wtg k 27) 100 := (show ∀ k, k < wN → wkd k = 11 → wtg k 27 < wN ∧ wkd (wtg k 27) = 100 by decide +kernel) k h.1 h.2
theorem mv_RM_321 : MV "LineFramesModel" 321 ⟨"LineFramesModel", "clear", "()V"⟩ prog_13_method_52_code 2 none 0 11 := ⟨⟨Or.inl (List.mem_of_getElem? (i := 1422) (by decide +kernel)), (List.mem_of_getElem? (i := 88) (by decide +kernel)), (List.mem_of_getElem? (i := 1425) (by decide +kernel)), by decide, by decide +kernel⟩, (List.mem_of_getElem? (i := 1424) (by decide +kernel)), (List.mem_of_getElem? (i := 56) (by decide +kernel)), _, rfl, rfl⟩
theorem mv_RM_324 : MV "LineFramesModel" 324 ⟨"LineFramesModel", "isMark", "()Z"⟩ prog_13_method_37_code 7 (some .boolean) 0 11 := ⟨⟨Or.inl (List.mem_of_getElem? (i := 1426) (by decide +kernel)), (List.mem_of_getElem? (i := 88) (by decide +kernel)), (List.mem_of_getElem? (i := 1429) (by decide +kernel)), by decide, by decide +kernel⟩, (List.mem_of_getElem? (i := 1428) (by decide +kernel)), (List.mem_of_getElem? (i := 57) (by decide +kernel)), _, rfl, rfl⟩
theorem mv_RM_327 : MV "LineFramesModel" 327 ⟨"LineFramesModel", "takeSegment", "()V"⟩ prog_13_method_51_code 3 none 0 11 := ⟨⟨Or.inl (List.mem_of_getElem? (i := 1434) (by decide +kernel)), (List.mem_of_getElem? (i := 88) (by decide +kernel)), (List.mem_of_getElem? (i := 1437) (by decide +kernel)), by decide, by decide +kernel⟩, (List.mem_of_getElem? (i := 1436) (by decide +kernel)), (List.mem_of_getElem? (i := 59) (by decide +kernel)), _, rfl, rfl⟩
theorem fw_11_20 : FW 11 20 .boolean := ⟨_, rfl, rfl, by decide +kernel⟩
theorem mv_RM_333 : MV "LineFramesModel" 333 ⟨"LineFramesModel", "keep", "()V"⟩ prog_13_method_53_code 2 none 0 11 := ⟨⟨Or.inl (List.mem_of_getElem? (i := 1494) (by decide +kernel)), (List.mem_of_getElem? (i := 88) (by decide +kernel)), (List.mem_of_getElem? (i := 1497) (by decide +kernel)), by decide, by decide +kernel⟩, (List.mem_of_getElem? (i := 1496) (by decide +kernel)), (List.mem_of_getElem? (i := 74) (by decide +kernel)), _, rfl, rfl⟩
end
section
/-! small rows for the generator -/
theorem wln_lt (k : Nat) : wln k < 2 ^ 31 := by
  by_cases h : k < 83
  · exact (show ∀ k, k < 83 → wln k < 2 ^ 31 by decide +kernel) k h
  · have : wlnL.length ≤ k := by
      have h9 : wlnL.length = 83 := by decide +kernel
      omega
    unfold wln
    rw [List.getD_eq_getElem?_getD, List.getElem?_eq_none this]
    decide
def ecase {α β γ : Type} (t : α ⊕ β) (a : α → γ) (b : β → γ) : γ := match t with | .inl v => a v | .inr n => b n
abbrev xrI (t : Int32 ⊕ Nat) (σ : Mem) : Rs := match t with | .inl r => (.inl (some (.int r)), σ) | .inr n => (.inr n, σ)
abbrev xrIM (t : (Int32 ⊕ Nat) × Mem) : Rs := match t.1 with | .inl r => (.inl (some (.int r)), t.2) | .inr n => (.inr n, t.2)
abbrev xrV (t : Unit ⊕ Nat) (σ : Mem) : Rs := match t with | .inl _ => (.inl none, σ) | .inr n => (.inr n, σ)
theorem xrI_ok (t : Int32 ⊕ Nat) (σ : Mem) : cvXI σ t = some (xrI t σ) := by cases t <;> rfl
theorem xrV_ok (t : Unit ⊕ Nat) (σ : Mem) : cvXV σ t = some (xrV t σ) := by cases t <;> rfl
theorem xrIM_ok (t : (Int32 ⊕ Nat) × Mem) : cvXIM t = some (xrIM t) := by obtain ⟨t, σ⟩ := t; cases t <;> rfl
theorem ne_bne {x : Int32} (h : (x != 0) = true) : ¬ x = 0 := by simpa using h
section JG
variable {β : Type} {F : Fx} {nL : Nat} {cv : β → Option Rs} {σ : Mem} {pc : Nat} {lv : List (Nat × Value)} {st : List Value} {cc : ByteArray} {own : String} {ret : Option FieldType} {fr lo : Nat} {A B : β}
theorem j_genM {e : Mem} {Kf : Mem → β} (K : ∀ τ, J F nL cv (Kf τ) τ pc lv st) : J F nL cv (lt e Kf) e pc lv st := K e
theorem j_genIM {e : Int32 × Mem} {Kf : Int32 × Mem → β} (K : ∀ q : Int32 × Mem, J F nL cv (Kf q) q.2 pc lv (.int q.1 :: st)) : J F nL cv (lt e Kf) e.2 pc lv (.int e.1 :: st) := K e
theorem j_genIMz {e : Int32 × Mem} {Kf : Int32 × Mem → β} (h : e.1 = 0 ∨ e.1 = 1) (K : ∀ q : Int32 × Mem, q.1 = 0 ∨ q.1 = 1 → J F nL cv (Kf q) q.2 pc lv (.int q.1 :: st)) : J F nL cv (lt e Kf) e.2 pc lv (.int e.1 :: st) := K e h
theorem j_sub {E : β} {lv9 : List (Nat × Value)} (ks : List Nat) (h : lv_pick lv ks = lv9) (K : J F nL cv E σ pc lv9 st) : J F nL cv E σ pc lv st := fun hE H locs ls hP hS hl => K hE H locs ls hP hS (lv_sub hl ks h)
theorem j_loop {X γ : Type} {cv : Option γ → Option Rs} {g : Option X} {Kf : X → Option γ} (K : J F nL (fun o => cv (o.bind Kf)) g σ pc lv st) : J F nL cv (g.bind Kf) σ pc lv st := K
theorem j_some {X γ : Type} {cv : Option γ → Option Rs} {Kf : X → Option γ} {x : X} (K : J F nL cv (Kf x) σ pc lv st) : J F nL (fun o => cv (o.bind Kf)) (some x) σ pc lv st := K
theorem j_case {x k : Int32} (k1 : x = k → J F nL cv A σ pc lv st) (k2 : ¬ x = k → J F nL cv B σ pc lv st) : J F nL cv (if x = k then A else B) σ pc lv st := by
  intro hE
  by_cases h : x = k
  · rw [if_pos h] at hE; exact k1 h hE
  · rw [if_neg h] at hE; exact k2 h hE
theorem j_tin {E : β} {x k : Int32} {dflt lo1 hi1 : Int} {offs : Array Int} {len tgt : Nat} {off : Int} (C : Ctx F cc nL own ret fr lo) (d : decode cc pc = .ok (.tableswitch dflt lo1 hi1 offs, len)) (hx : x = k) (h1 : ¬ k.toInt < lo1) (h2 : ¬ hi1 < k.toInt) (ho : offs[(k.toInt - lo1).toNat]? = some off) (ht : (pc : Int) + off = (tgt : Int)) (K : J F nL cv E σ tgt lv st) : J F nL cv E σ pc lv (.int x :: st) := by
  subst hx
  exact fun hE H locs ls hP hS hl => lv_tableIn C.1 C.2.1 d h1 h2 ho ht (K hE H locs ls hP hS hl)
theorem j_tout {E : β} {x : Int32} {dflt lo1 hi1 : Int} {offs : Array Int} {len tgt : Nat} (C : Ctx F cc nL own ret fr lo) (d : decode cc pc = .ok (.tableswitch dflt lo1 hi1 offs, len)) (ht : (pc : Int) + dflt = (tgt : Int)) (h : x.toInt < lo1 ∨ hi1 < x.toInt) (K : J F nL cv E σ tgt lv st) : J F nL cv E σ pc lv (.int x :: st) := fun hE H locs ls hP hS hl => lv_tableOut C.1 C.2.1 d h ht (K hE H locs ls hP hS hl)
theorem j_look {E : β} {x : Int32} {dflt : Int} {ps : Array (Int × Int)} {len tgt : Nat} {off : Int} (C : Ctx F cc nL own ret fr lo) (d : decode cc pc = .ok (.lookupswitch dflt ps, len)) (hp : (ps.toList.zip (ps.toList.drop 1)).all (fun (a, next) => a.1 < next.1) = true) (ho : Op.lookupswitch.offset ps.toList dflt x.toInt = off) (ht : (pc : Int) + off = (tgt : Int)) (K : J F nL cv E σ tgt lv st) : J F nL cv E σ pc lv (.int x :: st) := fun hE H locs ls hP hS hl => lv_lookup C.1 C.2.1 d hp ho ht (K hE H locs ls hP hS hl)
end JG
theorem sw_out3 {x : Int32} (h0 : ¬ x = 0) (h1 : ¬ x = 1) (h2 : ¬ x = 2) : x.toInt < 0 ∨ 2 < x.toInt := by
  have e0 := lv_neT h0 (a := 0) (by decide)
  have e1 := lv_neT h1 (a := 1) (by decide)
  have e2 := lv_neT h2 (a := 2) (by decide)
  omega
theorem sw_out8 {x : Int32} (h0 : ¬ x = 0) (h1 : ¬ x = 1) (h2 : ¬ x = 2) (h3 : ¬ x = 3) (h4 : ¬ x = 4) (h5 : ¬ x = 5) (h6 : ¬ x = 6) (h7 : ¬ x = 7) : x.toInt < 0 ∨ 7 < x.toInt := by
  have e0 := lv_neT h0 (a := 0) (by decide)
  have e1 := lv_neT h1 (a := 1) (by decide)
  have e2 := lv_neT h2 (a := 2) (by decide)
  have e3 := lv_neT h3 (a := 3) (by decide)
  have e4 := lv_neT h4 (a := 4) (by decide)
  have e5 := lv_neT h5 (a := 5) (by decide)
  have e6 := lv_neT h6 (a := 6) (by decide)
  have e7 := lv_neT h7 (a := 7) (by decide)
  omega
theorem sw_out10 {x : Int32} (h0 : ¬ x = 0) (h1 : ¬ x = 1) (h2 : ¬ x = 2) (h3 : ¬ x = 3) (h4 : ¬ x = 4) (h5 : ¬ x = 5) (h6 : ¬ x = 6) (h7 : ¬ x = 7) (h8 : ¬ x = 8) (h9 : ¬ x = 9) : x.toInt < 0 ∨ 9 < x.toInt := by
  have e0 := lv_neT h0 (a := 0) (by decide)
  have e1 := lv_neT h1 (a := 1) (by decide)
  have e2 := lv_neT h2 (a := 2) (by decide)
  have e3 := lv_neT h3 (a := 3) (by decide)
  have e4 := lv_neT h4 (a := 4) (by decide)
  have e5 := lv_neT h5 (a := 5) (by decide)
  have e6 := lv_neT h6 (a := 6) (by decide)
  have e7 := lv_neT h7 (a := 7) (by decide)
  have e8 := lv_neT h8 (a := 8) (by decide)
  have e9 := lv_neT h9 (a := 9) (by decide)
  omega
end
section
/-! LineFrames$Picture measure (IIII)V -/
theorem d_PI_measure_0 : decode prog_8_method_5_code 0 = .ok (.aload_n 0, 1) := by decide +kernel
theorem d_PI_measure_1 : decode prog_8_method_5_code 1 = .ok (.iload_n 1, 1) := by decide +kernel
theorem d_PI_measure_2 : decode prog_8_method_5_code 2 = .ok (.putfield 36, 3) := by decide +kernel
theorem d_PI_measure_5 : decode prog_8_method_5_code 5 = .ok (.aload_n 0, 1) := by decide +kernel
theorem d_PI_measure_6 : decode prog_8_method_5_code 6 = .ok (.iload_n 2, 1) := by decide +kernel
theorem d_PI_measure_7 : decode prog_8_method_5_code 7 = .ok (.putfield 40, 3) := by decide +kernel
theorem d_PI_measure_10 : decode prog_8_method_5_code 10 = .ok (.aload_n 0, 1) := by decide +kernel
theorem d_PI_measure_11 : decode prog_8_method_5_code 11 = .ok (.iload_n 3, 1) := by decide +kernel
theorem d_PI_measure_12 : decode prog_8_method_5_code 12 = .ok (.putfield 43, 3) := by decide +kernel
theorem d_PI_measure_15 : decode prog_8_method_5_code 15 = .ok (.aload_n 0, 1) := by decide +kernel
theorem d_PI_measure_16 : decode prog_8_method_5_code 16 = .ok (.iload 4, 2) := by decide +kernel
theorem d_PI_measure_18 : decode prog_8_method_5_code 18 = .ok (.putfield 46, 3) := by decide +kernel
theorem d_PI_measure_21 : decode prog_8_method_5_code 21 = .ok (.return_, 1) := by decide +kernel
def f_PI_measure (k0 : Nat) (x1 : Int32) (x2 : Int32) (x3 : Int32) (x4 : Int32) (σ : Mem) : Mem :=
  lt (mput σ k0 5 x1) fun σ1 =>
  lt (mput σ1 k0 6 x2) fun σ2 =>
  lt (mput σ2 k0 7 x3) fun σ3 =>
  lt (mput σ3 k0 8 x4) fun σ4 =>
  σ4
set_option maxHeartbeats 4000000 in
set_option maxRecDepth 100000 in
theorem w_PI_measure {F : Fx} (C : Ctx F prog_8_method_5_code 5 "LineFrames$Picture" none 0 0) {k0 : Nat} (h0k : Is k0 7) (x1 : Int32) (x2 : Int32) (x3 : Int32) (x4 : Int32) (σ : Mem) : J F 5 cvM (f_PI_measure k0 x1 x2 x3 x4 σ) σ 0 [(0, .ref (fad F k0)), (1, .int x1), (2, .int x2), (3, .int x3), (4, .int x4)] [] := by
  unfold f_PI_measure
  refine j_aload_n C d_PI_measure_0 0 rfl ?_
  refine j_iload_n C d_PI_measure_1 1 rfl ?_
  refine j_put C h0k fl_PI_36 fw_7_5 rfl rfl rfl d_PI_measure_2 (fun σ1 => ?_)
  refine j_aload_n C d_PI_measure_5 0 rfl ?_
  refine j_iload_n C d_PI_measure_6 2 rfl ?_
  refine j_put C h0k fl_PI_40 fw_7_6 rfl rfl rfl d_PI_measure_7 (fun σ2 => ?_)
  refine j_aload_n C d_PI_measure_10 0 rfl ?_
  refine j_iload_n C d_PI_measure_11 3 rfl ?_
  refine j_put C h0k fl_PI_43 fw_7_7 rfl rfl rfl d_PI_measure_12 (fun σ3 => ?_)
  refine j_aload_n C d_PI_measure_15 0 rfl ?_
  refine j_iload C d_PI_measure_16 4 rfl ?_
  refine j_put C h0k fl_PI_46 fw_7_8 rfl rfl rfl d_PI_measure_18 (fun σ4 => ?_)
  exact j_vret C (fun ρ h => leaf_eq h) d_PI_measure_21
theorem c_PI_measure {l : Launch} {D : va_G} {G : GC} {ad : Nat → Nat} {k0 : Nat} (h0k : Is k0 7) (x1 : Int32) (x2 : Int32) (x3 : Int32) (x4 : Int32) (σ : Mem) : Ctr l D G ad ⟨"LineFrames$Picture", "measure", "(IIII)V"⟩ prog_8_method_5_code 5 none 0 0 [.ref (ad k0), .int x1, .int x2, .int x3, .int x4] σ (.inl none, (f_PI_measure k0 x1 x2 x3 x4 σ)) := ctr_J (cv := cvM) (E := f_PI_measure k0 x1 x2 x3 x4 σ) (by decide +kernel) (Nat.le_of_ble_eq_true rfl) rfl (fun F h C => by subst h; exact w_PI_measure C h0k x1 x2 x3 x4 σ)
/-! LineFrames$Row fill (I)V -/
theorem d_RO_fill_0 : decode prog_9_method_4_code 0 = .ok (.iconst 0, 1) := by decide +kernel
theorem d_RO_fill_1 : decode prog_9_method_4_code 1 = .ok (.istore_n 2, 1) := by decide +kernel
theorem d_RO_fill_2 : decode prog_9_method_4_code 2 = .ok (.iload_n 2, 1) := by decide +kernel
theorem d_RO_fill_3 : decode prog_9_method_4_code 3 = .ok (.aload_n 0, 1) := by decide +kernel
theorem d_RO_fill_4 : decode prog_9_method_4_code 4 = .ok (.getfield 13, 3) := by decide +kernel
theorem d_RO_fill_7 : decode prog_9_method_4_code 7 = .ok (.arraylength, 1) := by decide +kernel
theorem d_RO_fill_8 : decode prog_9_method_4_code 8 = .ok (.if_icmp .ge 16, 3) := by decide +kernel
theorem d_RO_fill_11 : decode prog_9_method_4_code 11 = .ok (.aload_n 0, 1) := by decide +kernel
theorem d_RO_fill_12 : decode prog_9_method_4_code 12 = .ok (.getfield 13, 3) := by decide +kernel
theorem d_RO_fill_15 : decode prog_9_method_4_code 15 = .ok (.iload_n 2, 1) := by decide +kernel
theorem d_RO_fill_16 : decode prog_9_method_4_code 16 = .ok (.iload_n 1, 1) := by decide +kernel
theorem d_RO_fill_17 : decode prog_9_method_4_code 17 = .ok (.iastore, 1) := by decide +kernel
theorem d_RO_fill_18 : decode prog_9_method_4_code 18 = .ok (.iinc 2 1, 3) := by decide +kernel
theorem d_RO_fill_21 : decode prog_9_method_4_code 21 = .ok (.goto (-19), 3) := by decide +kernel
theorem d_RO_fill_24 : decode prog_9_method_4_code 24 = .ok (.return_, 1) := by decide +kernel
def L_RO_fill_2 (r0 : Nat) (b1 : Int32) : Nat → Int32 → Mem →  Option (Int32 × Mem)
  | 0, _, _ => none
  | n + 1, a2, σ =>
  if (nI (wln (wtg r0 0))) ≤ a2 then
  some (a2, σ)
  else
  if inb a2 (wln (wtg r0 0)) = true then
  lt (mput σ (wtg r0 0) a2.toNatClampNeg b1) fun σ3 =>
  L_RO_fill_2 r0 b1 n (a2 + (1 : Int32)) σ3
  else none
def f_RO_fill (k0 : Nat) (x1 : Int32) (σ : Mem) : Option (Mem) :=
  (L_RO_fill_2 k0 x1 9999 (0 : Int32) σ).bind fun q4 =>
  some (q4.2)
set_option maxHeartbeats 4000000 in
set_option maxRecDepth 100000 in
theorem wL_RO_fill_2 {F : Fx} (C : Ctx F prog_9_method_4_code 3 "LineFrames$Row" none 0 0) {cv : Option (Int32 × Mem) → Option Rs} (h0 : cv none = none) (r0 : Nat) (hr0 : Is r0 8) (b1 : Int32) (hex : ∀ q : Int32 × Mem, J F 3 cv (some q) q.2 24 [(0, .ref (fad F r0)), (1, .int b1), (2, .int q.1)] []) : ∀ (n : Nat) (a2 : Int32) (σ : Mem), J F 3 cv (L_RO_fill_2 r0 b1 n a2 σ) σ 2 [(0, .ref (fad F r0)), (1, .int b1), (2, .int a2)] [] := by
  intro n
  induction n with
  | zero => intro a2 σ hE; rw [L_RO_fill_2, h0] at hE; cases hE
  | succ n ih =>
    intro a2 σ
    rw [L_RO_fill_2]
    refine j_iload_n C d_RO_fill_2 2 rfl ?_
    refine j_aload_n C d_RO_fill_3 0 rfl ?_
    refine j_getR C hr0 fl_RO_13 rfl d_RO_fill_4 ?_
    refine j_alen C (tg_8_0 _ hr0) d_RO_fill_7 ?_
    refine j_icmp_ge (tgt := 24) C d_RO_fill_8 (by decide) (fun c1 => ?_) (fun c1 => ?_)
    · exact hex (a2, σ)
    · refine j_aload_n C d_RO_fill_11 0 rfl ?_
      refine j_getR C hr0 fl_RO_13 rfl d_RO_fill_12 ?_
      refine j_iload_n C d_RO_fill_15 2 rfl ?_
      refine j_iload_n C d_RO_fill_16 1 rfl ?_
      refine j_need h0 (fun g2 => ?_)
      refine j_iast C (tg_8_0 _ hr0) (inb_in g2) d_RO_fill_17 (fun σ3 => ?_)
      refine j_iinc (v := (a2 + (1 : Int32))) (lv9 := [(0, .ref (fad F r0)), (1, .int b1), (2, .int (a2 + (1 : Int32)))]) C d_RO_fill_18 2 rfl rfl rfl rfl (by decide) ?_
      refine j_goto (tgt := 2) C d_RO_fill_21 (by decide) ?_
      exact ih (a2 + (1 : Int32)) σ3
set_option maxHeartbeats 4000000 in
set_option maxRecDepth 100000 in
theorem w_RO_fill {F : Fx} (C : Ctx F prog_9_method_4_code 3 "LineFrames$Row" none 0 0) {k0 : Nat} (h0k : Is k0 8) (x1 : Int32) (σ : Mem) : J F 3 (cvO cvM) (f_RO_fill k0 x1 σ) σ 0 [(0, .ref (fad F k0)), (1, .int x1)] [] := by
  unfold f_RO_fill
  refine j_iconst (v := (0 : Int32)) C d_RO_fill_0 (by decide) ?_
  refine j_istore_n (lv9 := [(0, .ref (fad F k0)), (1, .int x1), (2, .int (0 : Int32))]) C d_RO_fill_1 rfl rfl (by decide) ?_
  refine j_loop (wL_RO_fill_2 C rfl k0 h0k x1 (fun q4 => j_some ?_) 9999 (0 : Int32) σ)
  exact j_vret C (fun ρ h => leaf_eq h) d_RO_fill_24
theorem c_RO_fill {l : Launch} {D : va_G} {G : GC} {ad : Nat → Nat} {k0 : Nat} (h0k : Is k0 8) (x1 : Int32) (σ : Mem) {q : Mem} (hq : f_RO_fill k0 x1 σ = some q) : Ctr l D G ad ⟨"LineFrames$Row", "fill", "(I)V"⟩ prog_9_method_4_code 3 none 0 0 [.ref (ad k0), .int x1] σ (.inl none, q) := ctr_J (cv := (cvO cvM)) (E := f_RO_fill k0 x1 σ) (by decide +kernel) (Nat.le_of_ble_eq_true rfl) (by rw [hq]; rfl) (fun F h C => by subst h; exact w_RO_fill C h0k x1 σ)
/-! LineFrames$Notes clear ()V -/
theorem d_NO_clear_0 : decode prog_7_method_10_code 0 = .ok (.aload_n 0, 1) := by decide +kernel
theorem d_NO_clear_1 : decode prog_7_method_10_code 1 = .ok (.iconst 0, 1) := by decide +kernel
theorem d_NO_clear_2 : decode prog_7_method_10_code 2 = .ok (.putfield 26, 3) := by decide +kernel
theorem d_NO_clear_5 : decode prog_7_method_10_code 5 = .ok (.return_, 1) := by decide +kernel
def f_NO_clear (k0 : Nat) (σ : Mem) : Mem :=
  lt (mput σ k0 3 (0 : Int32)) fun σ1 =>
  σ1
set_option maxHeartbeats 4000000 in
set_option maxRecDepth 100000 in
theorem w_NO_clear {F : Fx} (C : Ctx F prog_7_method_10_code 1 "LineFrames$Notes" none 0 0) {k0 : Nat} (h0k : Is k0 6) (σ : Mem) : J F 1 cvM (f_NO_clear k0 σ) σ 0 [(0, .ref (fad F k0))] [] := by
  unfold f_NO_clear
  refine j_aload_n C d_NO_clear_0 0 rfl ?_
  refine j_iconst (v := (0 : Int32)) C d_NO_clear_1 (by decide) ?_
  refine j_put C h0k fl_NO_26 fw_6_3 rfl rfl rfl d_NO_clear_2 (fun σ1 => ?_)
  exact j_vret C (fun ρ h => leaf_eq h) d_NO_clear_5
theorem c_NO_clear {l : Launch} {D : va_G} {G : GC} {ad : Nat → Nat} {k0 : Nat} (h0k : Is k0 6) (σ : Mem) : Ctr l D G ad ⟨"LineFrames$Notes", "clear", "()V"⟩ prog_7_method_10_code 1 none 0 0 [.ref (ad k0)] σ (.inl none, (f_NO_clear k0 σ)) := ctr_J (cv := cvM) (E := f_NO_clear k0 σ) (by decide +kernel) (Nat.le_of_ble_eq_true rfl) rfl (fun F h C => by subst h; exact w_NO_clear C h0k σ)
/-! LineFrames$Row set (II)V -/
theorem d_RO_set_0 : decode prog_9_method_3_code 0 = .ok (.iload_n 1, 1) := by decide +kernel
theorem d_RO_set_1 : decode prog_9_method_3_code 1 = .ok (.ifCond .lt 19, 3) := by decide +kernel
theorem d_RO_set_4 : decode prog_9_method_3_code 4 = .ok (.iload_n 1, 1) := by decide +kernel
theorem d_RO_set_5 : decode prog_9_method_3_code 5 = .ok (.aload_n 0, 1) := by decide +kernel
theorem d_RO_set_6 : decode prog_9_method_3_code 6 = .ok (.getfield 13, 3) := by decide +kernel
theorem d_RO_set_9 : decode prog_9_method_3_code 9 = .ok (.arraylength, 1) := by decide +kernel
theorem d_RO_set_10 : decode prog_9_method_3_code 10 = .ok (.if_icmp .ge 10, 3) := by decide +kernel
theorem d_RO_set_13 : decode prog_9_method_3_code 13 = .ok (.aload_n 0, 1) := by decide +kernel
theorem d_RO_set_14 : decode prog_9_method_3_code 14 = .ok (.getfield 13, 3) := by decide +kernel
theorem d_RO_set_17 : decode prog_9_method_3_code 17 = .ok (.iload_n 1, 1) := by decide +kernel
theorem d_RO_set_18 : decode prog_9_method_3_code 18 = .ok (.iload_n 2, 1) := by decide +kernel
theorem d_RO_set_19 : decode prog_9_method_3_code 19 = .ok (.iastore, 1) := by decide +kernel
theorem d_RO_set_20 : decode prog_9_method_3_code 20 = .ok (.return_, 1) := by decide +kernel
def f_RO_set (k0 : Nat) (x1 : Int32) (x2 : Int32) (σ : Mem) : Mem :=
  if x1 < 0 then
  σ
  else
  if (nI (wln (wtg k0 0))) ≤ x1 then
  σ
  else
  lt (mput σ (wtg k0 0) x1.toNatClampNeg x2) fun σ7 =>
  σ7
set_option maxHeartbeats 4000000 in
set_option maxRecDepth 100000 in
theorem w_RO_set {F : Fx} (C : Ctx F prog_9_method_3_code 3 "LineFrames$Row" none 0 0) {k0 : Nat} (h0k : Is k0 8) (x1 : Int32) (x2 : Int32) (σ : Mem) : J F 3 cvM (f_RO_set k0 x1 x2 σ) σ 0 [(0, .ref (fad F k0)), (1, .int x1), (2, .int x2)] [] := by
  unfold f_RO_set
  refine j_iload_n C d_RO_set_0 1 rfl ?_
  refine j_if_lt (tgt := 20) C d_RO_set_1 (by decide) (fun c3 => ?_) (fun c3 => ?_)
  · exact j_vret C (fun ρ h => leaf_eq h) d_RO_set_20
  · refine j_iload_n C d_RO_set_4 1 rfl ?_
    refine j_aload_n C d_RO_set_5 0 rfl ?_
    refine j_getR C h0k fl_RO_13 rfl d_RO_set_6 ?_
    refine j_alen C (tg_8_0 _ h0k) d_RO_set_9 ?_
    refine j_icmp_ge (tgt := 20) C d_RO_set_10 (by decide) (fun c6 => ?_) (fun c6 => ?_)
    · exact j_vret C (fun ρ h => leaf_eq h) d_RO_set_20
    · refine j_aload_n C d_RO_set_13 0 rfl ?_
      refine j_getR C h0k fl_RO_13 rfl d_RO_set_14 ?_
      refine j_iload_n C d_RO_set_17 1 rfl ?_
      refine j_iload_n C d_RO_set_18 2 rfl ?_
      refine j_iast C (tg_8_0 _ h0k) (vp_gd c3 c6 (wln_lt _)) d_RO_set_19 (fun σ7 => ?_)
      exact j_vret C (fun ρ h => leaf_eq h) d_RO_set_20
theorem c_RO_set {l : Launch} {D : va_G} {G : GC} {ad : Nat → Nat} {k0 : Nat} (h0k : Is k0 8) (x1 : Int32) (x2 : Int32) (σ : Mem) : Ctr l D G ad ⟨"LineFrames$Row", "set", "(II)V"⟩ prog_9_method_3_code 3 none 0 0 [.ref (ad k0), .int x1, .int x2] σ (.inl none, (f_RO_set k0 x1 x2 σ)) := ctr_J (cv := cvM) (E := f_RO_set k0 x1 x2 σ) (by decide +kernel) (Nat.le_of_ble_eq_true rfl) rfl (fun F h C => by subst h; exact w_RO_set C h0k x1 x2 σ)
/-! LineFrames$Picture clear ()V -/
theorem d_PI_clear_0 : decode prog_8_method_4_code 0 = .ok (.aload_n 0, 1) := by decide +kernel
theorem d_PI_clear_1 : decode prog_8_method_4_code 1 = .ok (.iconst 0, 1) := by decide +kernel
theorem d_PI_clear_2 : decode prog_8_method_4_code 2 = .ok (.iconst 0, 1) := by decide +kernel
theorem d_PI_clear_3 : decode prog_8_method_4_code 3 = .ok (.iconst 0, 1) := by decide +kernel
theorem d_PI_clear_4 : decode prog_8_method_4_code 4 = .ok (.iconst 0, 1) := by decide +kernel
theorem d_PI_clear_5 : decode prog_8_method_4_code 5 = .ok (.invokevirtual 49, 3) := by decide +kernel
theorem d_PI_clear_8 : decode prog_8_method_4_code 8 = .ok (.aload_n 0, 1) := by decide +kernel
theorem d_PI_clear_9 : decode prog_8_method_4_code 9 = .ok (.getfield 14, 3) := by decide +kernel
theorem d_PI_clear_12 : decode prog_8_method_4_code 12 = .ok (.iconst 0, 1) := by decide +kernel
theorem d_PI_clear_13 : decode prog_8_method_4_code 13 = .ok (.invokevirtual 53, 3) := by decide +kernel
theorem d_PI_clear_16 : decode prog_8_method_4_code 16 = .ok (.aload_n 0, 1) := by decide +kernel
theorem d_PI_clear_17 : decode prog_8_method_4_code 17 = .ok (.getfield 23, 3) := by decide +kernel
theorem d_PI_clear_20 : decode prog_8_method_4_code 20 = .ok (.iconst 0, 1) := by decide +kernel
theorem d_PI_clear_21 : decode prog_8_method_4_code 21 = .ok (.invokevirtual 53, 3) := by decide +kernel
theorem d_PI_clear_24 : decode prog_8_method_4_code 24 = .ok (.aload_n 0, 1) := by decide +kernel
theorem d_PI_clear_25 : decode prog_8_method_4_code 25 = .ok (.getfield 32, 3) := by decide +kernel
theorem d_PI_clear_28 : decode prog_8_method_4_code 28 = .ok (.invokevirtual 56, 3) := by decide +kernel
theorem d_PI_clear_31 : decode prog_8_method_4_code 31 = .ok (.aload_n 0, 1) := by decide +kernel
theorem d_PI_clear_32 : decode prog_8_method_4_code 32 = .ok (.getfield 20, 3) := by decide +kernel
theorem d_PI_clear_35 : decode prog_8_method_4_code 35 = .ok (.iconst 0, 1) := by decide +kernel
theorem d_PI_clear_36 : decode prog_8_method_4_code 36 = .ok (.bipush 64, 2) := by decide +kernel
theorem d_PI_clear_38 : decode prog_8_method_4_code 38 = .ok (.invokevirtual 59, 3) := by decide +kernel
theorem d_PI_clear_41 : decode prog_8_method_4_code 41 = .ok (.aload_n 0, 1) := by decide +kernel
theorem d_PI_clear_42 : decode prog_8_method_4_code 42 = .ok (.getfield 20, 3) := by decide +kernel
theorem d_PI_clear_45 : decode prog_8_method_4_code 45 = .ok (.iconst 1, 1) := by decide +kernel
theorem d_PI_clear_46 : decode prog_8_method_4_code 46 = .ok (.iconst 4, 1) := by decide +kernel
theorem d_PI_clear_47 : decode prog_8_method_4_code 47 = .ok (.invokevirtual 59, 3) := by decide +kernel
theorem d_PI_clear_50 : decode prog_8_method_4_code 50 = .ok (.aload_n 0, 1) := by decide +kernel
theorem d_PI_clear_51 : decode prog_8_method_4_code 51 = .ok (.getfield 20, 3) := by decide +kernel
theorem d_PI_clear_54 : decode prog_8_method_4_code 54 = .ok (.iconst 2, 1) := by decide +kernel
theorem d_PI_clear_55 : decode prog_8_method_4_code 55 = .ok (.iconst 0, 1) := by decide +kernel
theorem d_PI_clear_56 : decode prog_8_method_4_code 56 = .ok (.invokevirtual 59, 3) := by decide +kernel
theorem d_PI_clear_59 : decode prog_8_method_4_code 59 = .ok (.return_, 1) := by decide +kernel
def f_PI_clear (k0 : Nat) (σ : Mem) : Option (Mem) :=
  lt (f_PI_measure k0 (0 : Int32) (0 : Int32) (0 : Int32) (0 : Int32) σ) fun σ1 =>
  (f_RO_fill (wtg k0 0) (0 : Int32) σ1).bind fun σ3 =>
  (f_RO_fill (wtg k0 2) (0 : Int32) σ3).bind fun σ5 =>
  lt (f_NO_clear (wtg k0 4) σ5) fun σ6 =>
  lt (f_RO_set (wtg k0 1) (0 : Int32) (64 : Int32) σ6) fun σ7 =>
  lt (f_RO_set (wtg k0 1) (1 : Int32) (4 : Int32) σ7) fun σ8 =>
  lt (f_RO_set (wtg k0 1) (2 : Int32) (0 : Int32) σ8) fun σ9 =>
  some (σ9)
set_option maxHeartbeats 4000000 in
set_option maxRecDepth 100000 in
theorem w_PI_clear {F : Fx} (C : Ctx F prog_8_method_4_code 1 "LineFrames$Picture" none 1 24) {k0 : Nat} (h0k : Is k0 7) (σ : Mem) : J F 1 (cvO cvM) (f_PI_clear k0 σ) σ 0 [(0, .ref (fad F k0))] [] := by
  unfold f_PI_clear
  refine j_aload_n C d_PI_clear_0 0 rfl ?_
  refine j_iconst (v := (0 : Int32)) C d_PI_clear_1 (by decide) ?_
  refine j_iconst (v := (0 : Int32)) C d_PI_clear_2 (by decide) ?_
  refine j_iconst (v := (0 : Int32)) C d_PI_clear_3 (by decide) ?_
  refine j_iconst (v := (0 : Int32)) C d_PI_clear_4 (by decide) ?_
  refine j_callVv C mv_PI_49 [.int (0 : Int32), .int (0 : Int32), .int (0 : Int32), .int (0 : Int32)] [] h0k (c_PI_measure h0k (0 : Int32) (0 : Int32) (0 : Int32) (0 : Int32) σ) rfl rfl (by decide) (Nat.le_of_ble_eq_true rfl) d_PI_clear_5 ?_
  refine j_genM (fun σ1 => ?_)
  refine j_aload_n C d_PI_clear_8 0 rfl ?_
  refine j_getR C h0k fl_PI_14 rfl d_PI_clear_9 ?_
  refine j_iconst (v := (0 : Int32)) C d_PI_clear_12 (by decide) ?_
  refine j_bind rfl (fun σ3 e2 => ?_)
  refine j_callVv C mv_PI_53 [.int (0 : Int32)] [] (tg_7_0 _ h0k) (c_RO_fill (tg_7_0 _ h0k) (0 : Int32) σ1 e2) rfl rfl (by decide) (Nat.le_of_ble_eq_true rfl) d_PI_clear_13 ?_
  refine j_aload_n C d_PI_clear_16 0 rfl ?_
  refine j_getR C h0k fl_PI_23 rfl d_PI_clear_17 ?_
  refine j_iconst (v := (0 : Int32)) C d_PI_clear_20 (by decide) ?_
  refine j_bind rfl (fun σ5 e4 => ?_)
  refine j_callVv C mv_PI_53 [.int (0 : Int32)] [] (tg_7_2 _ h0k) (c_RO_fill (tg_7_2 _ h0k) (0 : Int32) σ3 e4) rfl rfl (by decide) (Nat.le_of_ble_eq_true rfl) d_PI_clear_21 ?_
  refine j_aload_n C d_PI_clear_24 0 rfl ?_
  refine j_getR C h0k fl_PI_32 rfl d_PI_clear_25 ?_
  refine j_callVv C mv_PI_56 [] [] (tg_7_4 _ h0k) (c_NO_clear (tg_7_4 _ h0k) σ5) rfl rfl (by decide) (Nat.le_of_ble_eq_true rfl) d_PI_clear_28 ?_
  refine j_genM (fun σ6 => ?_)
  refine j_aload_n C d_PI_clear_31 0 rfl ?_
  refine j_getR C h0k fl_PI_20 rfl d_PI_clear_32 ?_
  refine j_iconst (v := (0 : Int32)) C d_PI_clear_35 (by decide) ?_
  refine j_bipush (v := (64 : Int32)) C d_PI_clear_36 (by decide) ?_
  refine j_callVv C mv_PI_59 [.int (0 : Int32), .int (64 : Int32)] [] (tg_7_1 _ h0k) (c_RO_set (tg_7_1 _ h0k) (0 : Int32) (64 : Int32) σ6) rfl rfl (by decide) (Nat.le_of_ble_eq_true rfl) d_PI_clear_38 ?_
  refine j_genM (fun σ7 => ?_)
  refine j_aload_n C d_PI_clear_41 0 rfl ?_
  refine j_getR C h0k fl_PI_20 rfl d_PI_clear_42 ?_
  refine j_iconst (v := (1 : Int32)) C d_PI_clear_45 (by decide) ?_
  refine j_iconst (v := (4 : Int32)) C d_PI_clear_46 (by decide) ?_
  refine j_callVv C mv_PI_59 [.int (1 : Int32), .int (4 : Int32)] [] (tg_7_1 _ h0k) (c_RO_set (tg_7_1 _ h0k) (1 : Int32) (4 : Int32) σ7) rfl rfl (by decide) (Nat.le_of_ble_eq_true rfl) d_PI_clear_47 ?_
  refine j_genM (fun σ8 => ?_)
  refine j_aload_n C d_PI_clear_50 0 rfl ?_
  refine j_getR C h0k fl_PI_20 rfl d_PI_clear_51 ?_
  refine j_iconst (v := (2 : Int32)) C d_PI_clear_54 (by decide) ?_
  refine j_iconst (v := (0 : Int32)) C d_PI_clear_55 (by decide) ?_
  refine j_callVv C mv_PI_59 [.int (2 : Int32), .int (0 : Int32)] [] (tg_7_1 _ h0k) (c_RO_set (tg_7_1 _ h0k) (2 : Int32) (0 : Int32) σ8) rfl rfl (by decide) (Nat.le_of_ble_eq_true rfl) d_PI_clear_56 ?_
  refine j_genM (fun σ9 => ?_)
  exact j_vret C (fun ρ h => leaf_eq h) d_PI_clear_59
theorem c_PI_clear {l : Launch} {D : va_G} {G : GC} {ad : Nat → Nat} {k0 : Nat} (h0k : Is k0 7) (σ : Mem) {q : Mem} (hq : f_PI_clear k0 σ = some q) : Ctr l D G ad ⟨"LineFrames$Picture", "clear", "()V"⟩ prog_8_method_4_code 1 none 1 24 [.ref (ad k0)] σ (.inl none, q) := ctr_J (cv := (cvO cvM)) (E := f_PI_clear k0 σ) (by decide +kernel) (Nat.le_of_ble_eq_true rfl) (by rw [hq]; rfl) (fun F h C => by subst h; exact w_PI_clear C h0k σ)
/-! LineFrames$Fault clear ()V -/
theorem d_FA_clear_0 : decode prog_5_method_2_code 0 = .ok (.aload_n 0, 1) := by decide +kernel
theorem d_FA_clear_1 : decode prog_5_method_2_code 1 = .ok (.iconst 0, 1) := by decide +kernel
theorem d_FA_clear_2 : decode prog_5_method_2_code 2 = .ok (.putfield 7, 3) := by decide +kernel
theorem d_FA_clear_5 : decode prog_5_method_2_code 5 = .ok (.aload_n 0, 1) := by decide +kernel
theorem d_FA_clear_6 : decode prog_5_method_2_code 6 = .ok (.iconst 0, 1) := by decide +kernel
theorem d_FA_clear_7 : decode prog_5_method_2_code 7 = .ok (.putfield 13, 3) := by decide +kernel
theorem d_FA_clear_10 : decode prog_5_method_2_code 10 = .ok (.return_, 1) := by decide +kernel
def f_FA_clear (k0 : Nat) (σ : Mem) : Mem :=
  lt (mput σ k0 0 (0 : Int32)) fun σ1 =>
  lt (mput σ1 k0 1 (0 : Int32)) fun σ2 =>
  σ2
set_option maxHeartbeats 4000000 in
set_option maxRecDepth 100000 in
theorem w_FA_clear {F : Fx} (C : Ctx F prog_5_method_2_code 1 "LineFrames$Fault" none 0 0) {k0 : Nat} (h0k : Is k0 4) (σ : Mem) : J F 1 cvM (f_FA_clear k0 σ) σ 0 [(0, .ref (fad F k0))] [] := by
  unfold f_FA_clear
  refine j_aload_n C d_FA_clear_0 0 rfl ?_
  refine j_iconst (v := (0 : Int32)) C d_FA_clear_1 (by decide) ?_
  refine j_put C h0k fl_FA_7 fw_4_0 rfl rfl rfl d_FA_clear_2 (fun σ1 => ?_)
  refine j_aload_n C d_FA_clear_5 0 rfl ?_
  refine j_iconst (v := (0 : Int32)) C d_FA_clear_6 (by decide) ?_
  refine j_put C h0k fl_FA_13 fw_4_1 rfl rfl rfl d_FA_clear_7 (fun σ2 => ?_)
  exact j_vret C (fun ρ h => leaf_eq h) d_FA_clear_10
theorem c_FA_clear {l : Launch} {D : va_G} {G : GC} {ad : Nat → Nat} {k0 : Nat} (h0k : Is k0 4) (σ : Mem) : Ctr l D G ad ⟨"LineFrames$Fault", "clear", "()V"⟩ prog_5_method_2_code 1 none 0 0 [.ref (ad k0)] σ (.inl none, (f_FA_clear k0 σ)) := ctr_J (cv := cvM) (E := f_FA_clear k0 σ) (by decide +kernel) (Nat.le_of_ble_eq_true rfl) rfl (fun F h C => by subst h; exact w_FA_clear C h0k σ)
/-! LineFrames$StreamReader begin ()V -/
theorem d_SR_begin_0 : decode prog_10_method_2_code 0 = .ok (.aload_n 0, 1) := by decide +kernel
theorem d_SR_begin_1 : decode prog_10_method_2_code 1 = .ok (.getfield 12, 3) := by decide +kernel
theorem d_SR_begin_4 : decode prog_10_method_2_code 4 = .ok (.invokevirtual 85, 3) := by decide +kernel
theorem d_SR_begin_7 : decode prog_10_method_2_code 7 = .ok (.aload_n 0, 1) := by decide +kernel
theorem d_SR_begin_8 : decode prog_10_method_2_code 8 = .ok (.getfield 21, 3) := by decide +kernel
theorem d_SR_begin_11 : decode prog_10_method_2_code 11 = .ok (.invokevirtual 88, 3) := by decide +kernel
theorem d_SR_begin_14 : decode prog_10_method_2_code 14 = .ok (.aload_n 0, 1) := by decide +kernel
theorem d_SR_begin_15 : decode prog_10_method_2_code 15 = .ok (.getfield 43, 3) := by decide +kernel
theorem d_SR_begin_18 : decode prog_10_method_2_code 18 = .ok (.iconst 0, 1) := by decide +kernel
theorem d_SR_begin_19 : decode prog_10_method_2_code 19 = .ok (.invokevirtual 89, 3) := by decide +kernel
theorem d_SR_begin_22 : decode prog_10_method_2_code 22 = .ok (.aload_n 0, 1) := by decide +kernel
theorem d_SR_begin_23 : decode prog_10_method_2_code 23 = .ok (.iconst 0, 1) := by decide +kernel
theorem d_SR_begin_24 : decode prog_10_method_2_code 24 = .ok (.putfield 46, 3) := by decide +kernel
theorem d_SR_begin_27 : decode prog_10_method_2_code 27 = .ok (.aload_n 0, 1) := by decide +kernel
theorem d_SR_begin_28 : decode prog_10_method_2_code 28 = .ok (.iconst 0, 1) := by decide +kernel
theorem d_SR_begin_29 : decode prog_10_method_2_code 29 = .ok (.putfield 50, 3) := by decide +kernel
theorem d_SR_begin_32 : decode prog_10_method_2_code 32 = .ok (.aload_n 0, 1) := by decide +kernel
theorem d_SR_begin_33 : decode prog_10_method_2_code 33 = .ok (.iconst 0, 1) := by decide +kernel
theorem d_SR_begin_34 : decode prog_10_method_2_code 34 = .ok (.putfield 66, 3) := by decide +kernel
theorem d_SR_begin_37 : decode prog_10_method_2_code 37 = .ok (.aload_n 0, 1) := by decide +kernel
theorem d_SR_begin_38 : decode prog_10_method_2_code 38 = .ok (.iconst 0, 1) := by decide +kernel
theorem d_SR_begin_39 : decode prog_10_method_2_code 39 = .ok (.putfield 69, 3) := by decide +kernel
theorem d_SR_begin_42 : decode prog_10_method_2_code 42 = .ok (.return_, 1) := by decide +kernel
def f_SR_begin (k0 : Nat) (σ : Mem) : Option (Mem) :=
  (f_PI_clear (wtg k0 1) σ).bind fun σ2 =>
  lt (f_FA_clear (wtg k0 2) σ2) fun σ3 =>
  (f_RO_fill (wtg k0 5) (0 : Int32) σ3).bind fun σ5 =>
  lt (mput σ5 k0 6 (0 : Int32)) fun σ6 =>
  lt (mput σ6 k0 7 (0 : Int32)) fun σ7 =>
  lt (mput σ7 k0 12 (0 : Int32)) fun σ8 =>
  lt (mput σ8 k0 13 (0 : Int32)) fun σ9 =>
  some (σ9)
set_option maxHeartbeats 4000000 in
set_option maxRecDepth 100000 in
theorem w_SR_begin {F : Fx} (C : Ctx F prog_10_method_2_code 1 "LineFrames$StreamReader" none 2 44) {k0 : Nat} (h0k : Is k0 9) (σ : Mem) : J F 1 (cvO cvM) (f_SR_begin k0 σ) σ 0 [(0, .ref (fad F k0))] [] := by
  unfold f_SR_begin
  refine j_aload_n C d_SR_begin_0 0 rfl ?_
  refine j_getR C h0k fl_SR_12 rfl d_SR_begin_1 ?_
  refine j_bind rfl (fun σ2 e1 => ?_)
  refine j_callVv C mv_SR_85 [] [] (tg_9_1 _ h0k) (c_PI_clear (tg_9_1 _ h0k) σ e1) rfl rfl (by decide) (Nat.le_of_ble_eq_true rfl) d_SR_begin_4 ?_
  refine j_aload_n C d_SR_begin_7 0 rfl ?_
  refine j_getR C h0k fl_SR_21 rfl d_SR_begin_8 ?_
  refine j_callVv C mv_SR_88 [] [] (tg_9_2 _ h0k) (c_FA_clear (tg_9_2 _ h0k) σ2) rfl rfl (by decide) (Nat.le_of_ble_eq_true rfl) d_SR_begin_11 ?_
  refine j_genM (fun σ3 => ?_)
  refine j_aload_n C d_SR_begin_14 0 rfl ?_
  refine j_getR C h0k fl_SR_43 rfl d_SR_begin_15 ?_
  refine j_iconst (v := (0 : Int32)) C d_SR_begin_18 (by decide) ?_
  refine j_bind rfl (fun σ5 e4 => ?_)
  refine j_callVv C mv_SR_89 [.int (0 : Int32)] [] (tg_9_5 _ h0k) (c_RO_fill (tg_9_5 _ h0k) (0 : Int32) σ3 e4) rfl rfl (by decide) (Nat.le_of_ble_eq_true rfl) d_SR_begin_19 ?_
  refine j_aload_n C d_SR_begin_22 0 rfl ?_
  refine j_iconst (v := (0 : Int32)) C d_SR_begin_23 (by decide) ?_
  refine j_put C h0k fl_SR_46 fw_9_6 rfl rfl rfl d_SR_begin_24 (fun σ6 => ?_)
  refine j_aload_n C d_SR_begin_27 0 rfl ?_
  refine j_iconst (v := (0 : Int32)) C d_SR_begin_28 (by decide) ?_
  refine j_put C h0k fl_SR_50 fw_9_7 rfl (nz01 (Or.inl rfl)) rfl d_SR_begin_29 (fun σ7 => ?_)
  refine j_aload_n C d_SR_begin_32 0 rfl ?_
  refine j_iconst (v := (0 : Int32)) C d_SR_begin_33 (by decide) ?_
  refine j_put C h0k fl_SR_66 fw_9_12 rfl rfl rfl d_SR_begin_34 (fun σ8 => ?_)
  refine j_aload_n C d_SR_begin_37 0 rfl ?_
  refine j_iconst (v := (0 : Int32)) C d_SR_begin_38 (by decide) ?_
  refine j_put C h0k fl_SR_69 fw_9_13 rfl rfl rfl d_SR_begin_39 (fun σ9 => ?_)
  exact j_vret C (fun ρ h => leaf_eq h) d_SR_begin_42
theorem c_SR_begin {l : Launch} {D : va_G} {G : GC} {ad : Nat → Nat} {k0 : Nat} (h0k : Is k0 9) (σ : Mem) {q : Mem} (hq : f_SR_begin k0 σ = some q) : Ctr l D G ad ⟨"LineFrames$StreamReader", "begin", "()V"⟩ prog_10_method_2_code 1 none 2 44 [.ref (ad k0)] σ (.inl none, q) := ctr_J (cv := (cvO cvM)) (E := f_SR_begin k0 σ) (by decide +kernel) (Nat.le_of_ble_eq_true rfl) (by rw [hq]; rfl) (fun F h C => by subst h; exact w_SR_begin C h0k σ)
/-! LineFrames$Fault met ()Z -/
theorem d_FA_met_0 : decode prog_5_method_4_code 0 = .ok (.aload_n 0, 1) := by decide +kernel
theorem d_FA_met_1 : decode prog_5_method_4_code 1 = .ok (.getfield 7, 3) := by decide +kernel
theorem d_FA_met_4 : decode prog_5_method_4_code 4 = .ok (.ifCond .eq 7, 3) := by decide +kernel
theorem d_FA_met_7 : decode prog_5_method_4_code 7 = .ok (.iconst 1, 1) := by decide +kernel
theorem d_FA_met_8 : decode prog_5_method_4_code 8 = .ok (.goto 4, 3) := by decide +kernel
theorem d_FA_met_11 : decode prog_5_method_4_code 11 = .ok (.iconst 0, 1) := by decide +kernel
theorem d_FA_met_12 : decode prog_5_method_4_code 12 = .ok (.ireturn, 1) := by decide +kernel
def f_FA_met (k0 : Nat) (σ : Mem) : Int32 :=
  (if (σ k0 0) = 0 then (0 : Int32) else (1 : Int32))
set_option maxHeartbeats 4000000 in
set_option maxRecDepth 100000 in
theorem w_FA_met {F : Fx} (C : Ctx F prog_5_method_4_code 1 "LineFrames$Fault" (some .boolean) 0 0) {k0 : Nat} (h0k : Is k0 4) (σ : Mem) : J F 1 (cvI σ) (f_FA_met k0 σ) σ 0 [(0, .ref (fad F k0))] [] := by
  unfold f_FA_met
  refine j_aload_n C d_FA_met_0 0 rfl ?_
  refine j_getI C h0k fl_FA_7 rfl d_FA_met_1 ?_
  refine d_if_eq (a := (0 : Int32)) (b := (1 : Int32)) (jp := 12) (tgt := 11) C d_FA_met_4 (by decide) (fun c1 k2 => ?_) (fun c1 k2 => ?_) ?_
  · refine j_iconst (v := (0 : Int32)) C d_FA_met_11 (by decide) ?_
    exact k2
  · refine j_iconst (v := (1 : Int32)) C d_FA_met_7 (by decide) ?_
    refine j_goto (tgt := 12) C d_FA_met_8 (by decide) ?_
    exact k2
  exact j_iretz C (fun ρ h => leaf_eq h) (nz01 (ite01 (Or.inl rfl) (Or.inr rfl))) d_FA_met_12
theorem c_FA_met {l : Launch} {D : va_G} {G : GC} {ad : Nat → Nat} {k0 : Nat} (h0k : Is k0 4) (σ : Mem) : Ctr l D G ad ⟨"LineFrames$Fault", "met", "()Z"⟩ prog_5_method_4_code 1 (some .boolean) 0 0 [.ref (ad k0)] σ (.inl (some (.int (f_FA_met k0 σ))), σ) := ctr_J (cv := (cvI σ)) (E := f_FA_met k0 σ) (by decide +kernel) (Nat.le_of_ble_eq_true rfl) rfl (fun F h C => by subst h; exact w_FA_met C h0k σ)
theorem z_FA_met (k0 : Nat) (σ : Mem) : f_FA_met k0 σ = 0 ∨ f_FA_met k0 σ = 1 := by
  unfold f_FA_met
  try simp only [lt]
  repeat' split
  all_goals first | exact Or.inl rfl | exact Or.inr rfl
/-! LineFrames$StreamReader ended ()Z -/
theorem d_SR_ended_0 : decode prog_10_method_3_code 0 = .ok (.aload_n 0, 1) := by decide +kernel
theorem d_SR_ended_1 : decode prog_10_method_3_code 1 = .ok (.getfield 50, 3) := by decide +kernel
theorem d_SR_ended_4 : decode prog_10_method_3_code 4 = .ok (.ifCond .ne 13, 3) := by decide +kernel
theorem d_SR_ended_7 : decode prog_10_method_3_code 7 = .ok (.aload_n 0, 1) := by decide +kernel
theorem d_SR_ended_8 : decode prog_10_method_3_code 8 = .ok (.getfield 21, 3) := by decide +kernel
theorem d_SR_ended_11 : decode prog_10_method_3_code 11 = .ok (.invokevirtual 92, 3) := by decide +kernel
theorem d_SR_ended_14 : decode prog_10_method_3_code 14 = .ok (.ifCond .eq 7, 3) := by decide +kernel
theorem d_SR_ended_17 : decode prog_10_method_3_code 17 = .ok (.iconst 1, 1) := by decide +kernel
theorem d_SR_ended_18 : decode prog_10_method_3_code 18 = .ok (.goto 4, 3) := by decide +kernel
theorem d_SR_ended_21 : decode prog_10_method_3_code 21 = .ok (.iconst 0, 1) := by decide +kernel
theorem d_SR_ended_22 : decode prog_10_method_3_code 22 = .ok (.ireturn, 1) := by decide +kernel
def f_SR_ended (k0 : Nat) (σ : Mem) : Int32 :=
  (if (σ k0 7) = 0 then (if (f_FA_met (wtg k0 2) σ) = 0 then (0 : Int32) else (1 : Int32)) else (1 : Int32))
set_option maxHeartbeats 4000000 in
set_option maxRecDepth 100000 in
theorem w_SR_ended {F : Fx} (C : Ctx F prog_10_method_3_code 1 "LineFrames$StreamReader" (some .boolean) 1 20) {k0 : Nat} (h0k : Is k0 9) (σ : Mem) : J F 1 (cvI σ) (f_SR_ended k0 σ) σ 0 [(0, .ref (fad F k0))] [] := by
  unfold f_SR_ended
  refine j_aload_n C d_SR_ended_0 0 rfl ?_
  refine j_getI C h0k fl_SR_50 rfl d_SR_ended_1 ?_
  refine d_if_ne (a := (if (f_FA_met (wtg k0 2) σ) = 0 then (0 : Int32) else (1 : Int32))) (b := (1 : Int32)) (jp := 22) (tgt := 17) C d_SR_ended_4 (by decide) (fun c7 k8 => ?_) (fun c7 k8 => ?_) ?_
  · refine j_iconst (v := (1 : Int32)) C d_SR_ended_17 (by decide) ?_
    refine j_goto (tgt := 22) C d_SR_ended_18 (by decide) ?_
    exact k8
  · refine j_aload_n C d_SR_ended_7 0 rfl ?_
    refine j_getR C h0k fl_SR_21 rfl d_SR_ended_8 ?_
    refine j_callVi C mv_SR_92 [] [] (tg_9_2 _ h0k) (c_FA_met (tg_9_2 _ h0k) σ) rfl rfl (by decide) (Nat.le_of_ble_eq_true rfl) d_SR_ended_11 ?_
    refine d_if_eq (a := (0 : Int32)) (b := (1 : Int32)) (jp := 22) (tgt := 21) C d_SR_ended_14 (by decide) (fun c9 k10 => ?_) (fun c9 k10 => ?_) ?_
    · refine j_iconst (v := (0 : Int32)) C d_SR_ended_21 (by decide) ?_
      exact k10
    · refine j_iconst (v := (1 : Int32)) C d_SR_ended_17 (by decide) ?_
      refine j_goto (tgt := 22) C d_SR_ended_18 (by decide) ?_
      exact k10
    exact k8
  exact j_iretz C (fun ρ h => leaf_eq h) (nz01 (ite01 (ite01 (Or.inl rfl) (Or.inr rfl)) (Or.inr rfl))) d_SR_ended_22
theorem c_SR_ended {l : Launch} {D : va_G} {G : GC} {ad : Nat → Nat} {k0 : Nat} (h0k : Is k0 9) (σ : Mem) : Ctr l D G ad ⟨"LineFrames$StreamReader", "ended", "()Z"⟩ prog_10_method_3_code 1 (some .boolean) 1 20 [.ref (ad k0)] σ (.inl (some (.int (f_SR_ended k0 σ))), σ) := ctr_J (cv := (cvI σ)) (E := f_SR_ended k0 σ) (by decide +kernel) (Nat.le_of_ble_eq_true rfl) rfl (fun F h C => by subst h; exact w_SR_ended C h0k σ)
theorem z_SR_ended (k0 : Nat) (σ : Mem) : f_SR_ended k0 σ = 0 ∨ f_SR_ended k0 σ = 1 := by
  unfold f_SR_ended
  try simp only [lt]
  repeat' split
  all_goals first | exact Or.inl rfl | exact Or.inr rfl
/-! LineFrames$Bytes size ()I -/
theorem d_BY_size_0 : decode prog_4_method_2_code 0 = .ok (.aload_n 0, 1) := by decide +kernel
theorem d_BY_size_1 : decode prog_4_method_2_code 1 = .ok (.getfield 15, 3) := by decide +kernel
theorem d_BY_size_4 : decode prog_4_method_2_code 4 = .ok (.ireturn, 1) := by decide +kernel
def f_BY_size (k0 : Nat) (σ : Mem) : Int32 :=
  (σ k0 1)
set_option maxHeartbeats 4000000 in
set_option maxRecDepth 100000 in
theorem w_BY_size {F : Fx} (C : Ctx F prog_4_method_2_code 1 "LineFrames$Bytes" (some .int) 0 0) {k0 : Nat} (h0k : Is k0 3) (σ : Mem) : J F 1 (cvI σ) (f_BY_size k0 σ) σ 0 [(0, .ref (fad F k0))] [] := by
  unfold f_BY_size
  refine j_aload_n C d_BY_size_0 0 rfl ?_
  refine j_getI C h0k fl_BY_15 rfl d_BY_size_1 ?_
  exact j_ireti C (fun ρ h => leaf_eq h) d_BY_size_4
theorem c_BY_size {l : Launch} {D : va_G} {G : GC} {ad : Nat → Nat} {k0 : Nat} (h0k : Is k0 3) (σ : Mem) : Ctr l D G ad ⟨"LineFrames$Bytes", "size", "()I"⟩ prog_4_method_2_code 1 (some .int) 0 0 [.ref (ad k0)] σ (.inl (some (.int (f_BY_size k0 σ))), σ) := ctr_J (cv := (cvI σ)) (E := f_BY_size k0 σ) (by decide +kernel) (Nat.le_of_ble_eq_true rfl) rfl (fun F h C => by subst h; exact w_BY_size C h0k σ)
/-! LineFrames$Fault meet (II)V -/
theorem d_FA_meet_0 : decode prog_5_method_3_code 0 = .ok (.aload_n 0, 1) := by decide +kernel
theorem d_FA_meet_1 : decode prog_5_method_3_code 1 = .ok (.getfield 7, 3) := by decide +kernel
theorem d_FA_meet_4 : decode prog_5_method_3_code 4 = .ok (.ifCond .ne 13, 3) := by decide +kernel
theorem d_FA_meet_7 : decode prog_5_method_3_code 7 = .ok (.aload_n 0, 1) := by decide +kernel
theorem d_FA_meet_8 : decode prog_5_method_3_code 8 = .ok (.iload_n 1, 1) := by decide +kernel
theorem d_FA_meet_9 : decode prog_5_method_3_code 9 = .ok (.putfield 7, 3) := by decide +kernel
theorem d_FA_meet_12 : decode prog_5_method_3_code 12 = .ok (.aload_n 0, 1) := by decide +kernel
theorem d_FA_meet_13 : decode prog_5_method_3_code 13 = .ok (.iload_n 2, 1) := by decide +kernel
theorem d_FA_meet_14 : decode prog_5_method_3_code 14 = .ok (.putfield 13, 3) := by decide +kernel
theorem d_FA_meet_17 : decode prog_5_method_3_code 17 = .ok (.return_, 1) := by decide +kernel
def f_FA_meet (k0 : Nat) (x1 : Int32) (x2 : Int32) (σ : Mem) : Mem :=
  if (σ k0 0) = 0 then
  lt (mput σ k0 0 x1) fun σ4 =>
  lt (mput σ4 k0 1 x2) fun σ5 =>
  σ5
  else
  σ
set_option maxHeartbeats 4000000 in
set_option maxRecDepth 100000 in
theorem w_FA_meet {F : Fx} (C : Ctx F prog_5_method_3_code 3 "LineFrames$Fault" none 0 0) {k0 : Nat} (h0k : Is k0 4) (x1 : Int32) (x2 : Int32) (σ : Mem) : J F 3 cvM (f_FA_meet k0 x1 x2 σ) σ 0 [(0, .ref (fad F k0)), (1, .int x1), (2, .int x2)] [] := by
  unfold f_FA_meet
  refine j_aload_n C d_FA_meet_0 0 rfl ?_
  refine j_getI C h0k fl_FA_7 rfl d_FA_meet_1 ?_
  refine j_if_ne (tgt := 17) C d_FA_meet_4 (by decide) (fun c3 => ?_) (fun c3 => ?_)
  · exact j_vret C (fun ρ h => leaf_eq h) d_FA_meet_17
  · refine j_aload_n C d_FA_meet_7 0 rfl ?_
    refine j_iload_n C d_FA_meet_8 1 rfl ?_
    refine j_put C h0k fl_FA_7 fw_4_0 rfl rfl rfl d_FA_meet_9 (fun σ4 => ?_)
    refine j_aload_n C d_FA_meet_12 0 rfl ?_
    refine j_iload_n C d_FA_meet_13 2 rfl ?_
    refine j_put C h0k fl_FA_13 fw_4_1 rfl rfl rfl d_FA_meet_14 (fun σ5 => ?_)
    exact j_vret C (fun ρ h => leaf_eq h) d_FA_meet_17
theorem c_FA_meet {l : Launch} {D : va_G} {G : GC} {ad : Nat → Nat} {k0 : Nat} (h0k : Is k0 4) (x1 : Int32) (x2 : Int32) (σ : Mem) : Ctr l D G ad ⟨"LineFrames$Fault", "meet", "(II)V"⟩ prog_5_method_3_code 3 none 0 0 [.ref (ad k0), .int x1, .int x2] σ (.inl none, (f_FA_meet k0 x1 x2 σ)) := ctr_J (cv := cvM) (E := f_FA_meet k0 x1 x2 σ) (by decide +kernel) (Nat.le_of_ble_eq_true rfl) rfl (fun F h C => by subst h; exact w_FA_meet C h0k x1 x2 σ)
/-! LineFrames$Bytes get (I)I -/
theorem d_BY_get_0 : decode prog_4_method_5_code 0 = .ok (.iload_n 1, 1) := by decide +kernel
theorem d_BY_get_1 : decode prog_4_method_5_code 1 = .ok (.ifCond .lt 29, 3) := by decide +kernel
theorem d_BY_get_4 : decode prog_4_method_5_code 4 = .ok (.iload_n 1, 1) := by decide +kernel
theorem d_BY_get_5 : decode prog_4_method_5_code 5 = .ok (.aload_n 0, 1) := by decide +kernel
theorem d_BY_get_6 : decode prog_4_method_5_code 6 = .ok (.getfield 15, 3) := by decide +kernel
theorem d_BY_get_9 : decode prog_4_method_5_code 9 = .ok (.if_icmp .ge 21, 3) := by decide +kernel
theorem d_BY_get_12 : decode prog_4_method_5_code 12 = .ok (.iload_n 1, 1) := by decide +kernel
theorem d_BY_get_13 : decode prog_4_method_5_code 13 = .ok (.aload_n 0, 1) := by decide +kernel
theorem d_BY_get_14 : decode prog_4_method_5_code 14 = .ok (.getfield 9, 3) := by decide +kernel
theorem d_BY_get_17 : decode prog_4_method_5_code 17 = .ok (.arraylength, 1) := by decide +kernel
theorem d_BY_get_18 : decode prog_4_method_5_code 18 = .ok (.if_icmp .ge 12, 3) := by decide +kernel
theorem d_BY_get_21 : decode prog_4_method_5_code 21 = .ok (.aload_n 0, 1) := by decide +kernel
theorem d_BY_get_22 : decode prog_4_method_5_code 22 = .ok (.getfield 9, 3) := by decide +kernel
theorem d_BY_get_25 : decode prog_4_method_5_code 25 = .ok (.iload_n 1, 1) := by decide +kernel
theorem d_BY_get_26 : decode prog_4_method_5_code 26 = .ok (.iaload, 1) := by decide +kernel
theorem d_BY_get_27 : decode prog_4_method_5_code 27 = .ok (.goto 4, 3) := by decide +kernel
theorem d_BY_get_30 : decode prog_4_method_5_code 30 = .ok (.iconst 0, 1) := by decide +kernel
theorem d_BY_get_31 : decode prog_4_method_5_code 31 = .ok (.ireturn, 1) := by decide +kernel
def f_BY_get (k0 : Nat) (x1 : Int32) (σ : Mem) : Int32 :=
  (if x1 < 0 then (0 : Int32) else (if (σ k0 1) ≤ x1 then (0 : Int32) else (if (nI (wln (wtg k0 0))) ≤ x1 then (0 : Int32) else (σ (wtg k0 0) x1.toNatClampNeg))))
set_option maxHeartbeats 4000000 in
set_option maxRecDepth 100000 in
theorem w_BY_get {F : Fx} (C : Ctx F prog_4_method_5_code 2 "LineFrames$Bytes" (some .int) 0 0) {k0 : Nat} (h0k : Is k0 3) (x1 : Int32) (σ : Mem) : J F 2 (cvI σ) (f_BY_get k0 x1 σ) σ 0 [(0, .ref (fad F k0)), (1, .int x1)] [] := by
  unfold f_BY_get
  refine j_iload_n C d_BY_get_0 1 rfl ?_
  refine d_if_lt (a := (0 : Int32)) (b := (if (σ k0 1) ≤ x1 then (0 : Int32) else (if (nI (wln (wtg k0 0))) ≤ x1 then (0 : Int32) else (σ (wtg k0 0) x1.toNatClampNeg)))) (jp := 31) (tgt := 30) C d_BY_get_1 (by decide) (fun c3 k4 => ?_) (fun c3 k4 => ?_) ?_
  · refine j_iconst (v := (0 : Int32)) C d_BY_get_30 (by decide) ?_
    exact k4
  · refine j_iload_n C d_BY_get_4 1 rfl ?_
    refine j_aload_n C d_BY_get_5 0 rfl ?_
    refine j_getI C h0k fl_BY_15 rfl d_BY_get_6 ?_
    refine d_icmp_ge (a := (0 : Int32)) (b := (if (nI (wln (wtg k0 0))) ≤ x1 then (0 : Int32) else (σ (wtg k0 0) x1.toNatClampNeg))) (jp := 31) (tgt := 30) C d_BY_get_9 (by decide) (fun c5 k6 => ?_) (fun c5 k6 => ?_) ?_
    · refine j_iconst (v := (0 : Int32)) C d_BY_get_30 (by decide) ?_
      exact k6
    · refine j_iload_n C d_BY_get_12 1 rfl ?_
      refine j_aload_n C d_BY_get_13 0 rfl ?_
      refine j_getR C h0k fl_BY_9 rfl d_BY_get_14 ?_
      refine j_alen C (tg_3_0 _ h0k) d_BY_get_17 ?_
      refine d_icmp_ge (a := (0 : Int32)) (b := (σ (wtg k0 0) x1.toNatClampNeg)) (jp := 31) (tgt := 30) C d_BY_get_18 (by decide) (fun c7 k8 => ?_) (fun c7 k8 => ?_) ?_
      · refine j_iconst (v := (0 : Int32)) C d_BY_get_30 (by decide) ?_
        exact k8
      · refine j_aload_n C d_BY_get_21 0 rfl ?_
        refine j_getR C h0k fl_BY_9 rfl d_BY_get_22 ?_
        refine j_iload_n C d_BY_get_25 1 rfl ?_
        refine j_iald C (tg_3_0 _ h0k) (vp_gd c3 c7 (wln_lt _)) d_BY_get_26 ?_
        refine j_goto (tgt := 31) C d_BY_get_27 (by decide) ?_
        exact k8
      exact k6
    exact k4
  exact j_ireti C (fun ρ h => leaf_eq h) d_BY_get_31
theorem c_BY_get {l : Launch} {D : va_G} {G : GC} {ad : Nat → Nat} {k0 : Nat} (h0k : Is k0 3) (x1 : Int32) (σ : Mem) : Ctr l D G ad ⟨"LineFrames$Bytes", "get", "(I)I"⟩ prog_4_method_5_code 2 (some .int) 0 0 [.ref (ad k0), .int x1] σ (.inl (some (.int (f_BY_get k0 x1 σ))), σ) := ctr_J (cv := (cvI σ)) (E := f_BY_get k0 x1 σ) (by decide +kernel) (Nat.le_of_ble_eq_true rfl) rfl (fun F h C => by subst h; exact w_BY_get C h0k x1 σ)
/-! LineFrames$StreamReader isNote (I)Z -/
theorem d_SR_isNote_0 : decode prog_10_method_6_code 0 = .ok (.iload_n 0, 1) := by decide +kernel
theorem d_SR_isNote_1 : decode prog_10_method_6_code 1 = .ok (.sipush 254, 3) := by decide +kernel
theorem d_SR_isNote_4 : decode prog_10_method_6_code 4 = .ok (.if_icmp .eq 17, 3) := by decide +kernel
theorem d_SR_isNote_7 : decode prog_10_method_6_code 7 = .ok (.iload_n 0, 1) := by decide +kernel
theorem d_SR_isNote_8 : decode prog_10_method_6_code 8 = .ok (.sipush 224, 3) := by decide +kernel
theorem d_SR_isNote_11 : decode prog_10_method_6_code 11 = .ok (.if_icmp .lt 14, 3) := by decide +kernel
theorem d_SR_isNote_14 : decode prog_10_method_6_code 14 = .ok (.iload_n 0, 1) := by decide +kernel
theorem d_SR_isNote_15 : decode prog_10_method_6_code 15 = .ok (.sipush 239, 3) := by decide +kernel
theorem d_SR_isNote_18 : decode prog_10_method_6_code 18 = .ok (.if_icmp .gt 7, 3) := by decide +kernel
theorem d_SR_isNote_21 : decode prog_10_method_6_code 21 = .ok (.iconst 1, 1) := by decide +kernel
theorem d_SR_isNote_22 : decode prog_10_method_6_code 22 = .ok (.goto 4, 3) := by decide +kernel
theorem d_SR_isNote_25 : decode prog_10_method_6_code 25 = .ok (.iconst 0, 1) := by decide +kernel
theorem d_SR_isNote_26 : decode prog_10_method_6_code 26 = .ok (.ireturn, 1) := by decide +kernel
def f_SR_isNote (x0 : Int32) (σ : Mem) : Int32 :=
  (if x0 = (254 : Int32) then (1 : Int32) else (if x0 < (224 : Int32) then (0 : Int32) else (if (239 : Int32) < x0 then (0 : Int32) else (1 : Int32))))
set_option maxHeartbeats 4000000 in
set_option maxRecDepth 100000 in
theorem w_SR_isNote {F : Fx} (C : Ctx F prog_10_method_6_code 1 "LineFrames$StreamReader" (some .boolean) 0 0) (x0 : Int32) (σ : Mem) : J F 1 (cvI σ) (f_SR_isNote x0 σ) σ 0 [(0, .int x0)] [] := by
  unfold f_SR_isNote
  refine j_iload_n C d_SR_isNote_0 0 rfl ?_
  refine j_sipush (v := (254 : Int32)) C d_SR_isNote_1 (by decide) ?_
  refine d_icmp_eq (a := (1 : Int32)) (b := (if x0 < (224 : Int32) then (0 : Int32) else (if (239 : Int32) < x0 then (0 : Int32) else (1 : Int32)))) (jp := 26) (tgt := 21) C d_SR_isNote_4 (by decide) (fun c7 k8 => ?_) (fun c7 k8 => ?_) ?_
  · refine j_iconst (v := (1 : Int32)) C d_SR_isNote_21 (by decide) ?_
    refine j_goto (tgt := 26) C d_SR_isNote_22 (by decide) ?_
    exact k8
  · refine j_iload_n C d_SR_isNote_7 0 rfl ?_
    refine j_sipush (v := (224 : Int32)) C d_SR_isNote_8 (by decide) ?_
    refine d_icmp_lt (a := (0 : Int32)) (b := (if (239 : Int32) < x0 then (0 : Int32) else (1 : Int32))) (jp := 26) (tgt := 25) C d_SR_isNote_11 (by decide) (fun c9 k10 => ?_) (fun c9 k10 => ?_) ?_
    · refine j_iconst (v := (0 : Int32)) C d_SR_isNote_25 (by decide) ?_
      exact k10
    · refine j_iload_n C d_SR_isNote_14 0 rfl ?_
      refine j_sipush (v := (239 : Int32)) C d_SR_isNote_15 (by decide) ?_
      refine d_icmp_gt (a := (0 : Int32)) (b := (1 : Int32)) (jp := 26) (tgt := 25) C d_SR_isNote_18 (by decide) (fun c11 k12 => ?_) (fun c11 k12 => ?_) ?_
      · refine j_iconst (v := (0 : Int32)) C d_SR_isNote_25 (by decide) ?_
        exact k12
      · refine j_iconst (v := (1 : Int32)) C d_SR_isNote_21 (by decide) ?_
        refine j_goto (tgt := 26) C d_SR_isNote_22 (by decide) ?_
        exact k12
      exact k10
    exact k8
  exact j_iretz C (fun ρ h => leaf_eq h) (nz01 (ite01 (Or.inr rfl) (ite01 (Or.inl rfl) (ite01 (Or.inl rfl) (Or.inr rfl))))) d_SR_isNote_26
theorem c_SR_isNote {l : Launch} {D : va_G} {G : GC} {ad : Nat → Nat} (x0 : Int32) (σ : Mem) : Ctr l D G ad ⟨"LineFrames$StreamReader", "isNote", "(I)Z"⟩ prog_10_method_6_code 1 (some .boolean) 0 0 [.int x0] σ (.inl (some (.int (f_SR_isNote x0 σ))), σ) := ctr_J (cv := (cvI σ)) (E := f_SR_isNote x0 σ) (by decide +kernel) (Nat.le_of_ble_eq_true rfl) rfl (fun F h C => by subst h; exact w_SR_isNote C x0 σ)
theorem z_SR_isNote (x0 : Int32) (σ : Mem) : f_SR_isNote x0 σ = 0 ∨ f_SR_isNote x0 σ = 1 := by
  unfold f_SR_isNote
  try simp only [lt]
  repeat' split
  all_goals first | exact Or.inl rfl | exact Or.inr rfl
/-! LineFrames$StreamReader isKnown (I)Z -/
theorem d_SR_isKnown_0 : decode prog_10_method_7_code 0 = .ok (.iload_n 0, 1) := by decide +kernel
theorem d_SR_isKnown_1 : decode prog_10_method_7_code 1 = .ok (.invokestatic 133, 3) := by decide +kernel
theorem d_SR_isKnown_4 : decode prog_10_method_7_code 4 = .ok (.ifCond .ne 45, 3) := by decide +kernel
theorem d_SR_isKnown_7 : decode prog_10_method_7_code 7 = .ok (.iload_n 0, 1) := by decide +kernel
theorem d_SR_isKnown_8 : decode prog_10_method_7_code 8 = .ok (.sipush 216, 3) := by decide +kernel
theorem d_SR_isKnown_11 : decode prog_10_method_7_code 11 = .ok (.if_icmp .eq 38, 3) := by decide +kernel
theorem d_SR_isKnown_14 : decode prog_10_method_7_code 14 = .ok (.iload_n 0, 1) := by decide +kernel
theorem d_SR_isKnown_15 : decode prog_10_method_7_code 15 = .ok (.sipush 247, 3) := by decide +kernel
theorem d_SR_isKnown_18 : decode prog_10_method_7_code 18 = .ok (.if_icmp .eq 31, 3) := by decide +kernel
theorem d_SR_isKnown_21 : decode prog_10_method_7_code 21 = .ok (.iload_n 0, 1) := by decide +kernel
theorem d_SR_isKnown_22 : decode prog_10_method_7_code 22 = .ok (.sipush 248, 3) := by decide +kernel
theorem d_SR_isKnown_25 : decode prog_10_method_7_code 25 = .ok (.if_icmp .eq 24, 3) := by decide +kernel
theorem d_SR_isKnown_28 : decode prog_10_method_7_code 28 = .ok (.iload_n 0, 1) := by decide +kernel
theorem d_SR_isKnown_29 : decode prog_10_method_7_code 29 = .ok (.sipush 221, 3) := by decide +kernel
theorem d_SR_isKnown_32 : decode prog_10_method_7_code 32 = .ok (.if_icmp .eq 17, 3) := by decide +kernel
theorem d_SR_isKnown_35 : decode prog_10_method_7_code 35 = .ok (.iload_n 0, 1) := by decide +kernel
theorem d_SR_isKnown_36 : decode prog_10_method_7_code 36 = .ok (.sipush 218, 3) := by decide +kernel
theorem d_SR_isKnown_39 : decode prog_10_method_7_code 39 = .ok (.if_icmp .eq 10, 3) := by decide +kernel
theorem d_SR_isKnown_42 : decode prog_10_method_7_code 42 = .ok (.iload_n 0, 1) := by decide +kernel
theorem d_SR_isKnown_43 : decode prog_10_method_7_code 43 = .ok (.sipush 217, 3) := by decide +kernel
theorem d_SR_isKnown_46 : decode prog_10_method_7_code 46 = .ok (.if_icmp .ne 7, 3) := by decide +kernel
theorem d_SR_isKnown_49 : decode prog_10_method_7_code 49 = .ok (.iconst 1, 1) := by decide +kernel
theorem d_SR_isKnown_50 : decode prog_10_method_7_code 50 = .ok (.goto 4, 3) := by decide +kernel
theorem d_SR_isKnown_53 : decode prog_10_method_7_code 53 = .ok (.iconst 0, 1) := by decide +kernel
theorem d_SR_isKnown_54 : decode prog_10_method_7_code 54 = .ok (.ireturn, 1) := by decide +kernel
def f_SR_isKnown (x0 : Int32) (σ : Mem) : Int32 :=
  (if (f_SR_isNote x0 σ) = 0 then (if x0 = (216 : Int32) then (1 : Int32) else (if x0 = (247 : Int32) then (1 : Int32) else (if x0 = (248 : Int32) then (1 : Int32) else (if x0 = (221 : Int32) then (1 : Int32) else (if x0 = (218 : Int32) then (1 : Int32) else (if x0 = (217 : Int32) then (1 : Int32) else (0 : Int32))))))) else (1 : Int32))
set_option maxHeartbeats 4000000 in
set_option maxRecDepth 100000 in
theorem w_SR_isKnown {F : Fx} (C : Ctx F prog_10_method_7_code 1 "LineFrames$StreamReader" (some .boolean) 1 20) (x0 : Int32) (σ : Mem) : J F 1 (cvI σ) (f_SR_isKnown x0 σ) σ 0 [(0, .int x0)] [] := by
  unfold f_SR_isKnown
  refine j_iload_n C d_SR_isKnown_0 0 rfl ?_
  refine j_callSi C ms_SR_133 [.int x0] [] (c_SR_isNote x0 σ) rfl rfl (by decide) (Nat.le_of_ble_eq_true rfl) d_SR_isKnown_1 ?_
  refine d_if_ne (a := (if x0 = (216 : Int32) then (1 : Int32) else (if x0 = (247 : Int32) then (1 : Int32) else (if x0 = (248 : Int32) then (1 : Int32) else (if x0 = (221 : Int32) then (1 : Int32) else (if x0 = (218 : Int32) then (1 : Int32) else (if x0 = (217 : Int32) then (1 : Int32) else (0 : Int32)))))))) (b := (1 : Int32)) (jp := 54) (tgt := 49) C d_SR_isKnown_4 (by decide) (fun c17 k18 => ?_) (fun c17 k18 => ?_) ?_
  · refine j_iconst (v := (1 : Int32)) C d_SR_isKnown_49 (by decide) ?_
    refine j_goto (tgt := 54) C d_SR_isKnown_50 (by decide) ?_
    exact k18
  · refine j_iload_n C d_SR_isKnown_7 0 rfl ?_
    refine j_sipush (v := (216 : Int32)) C d_SR_isKnown_8 (by decide) ?_
    refine d_icmp_eq (a := (1 : Int32)) (b := (if x0 = (247 : Int32) then (1 : Int32) else (if x0 = (248 : Int32) then (1 : Int32) else (if x0 = (221 : Int32) then (1 : Int32) else (if x0 = (218 : Int32) then (1 : Int32) else (if x0 = (217 : Int32) then (1 : Int32) else (0 : Int32))))))) (jp := 54) (tgt := 49) C d_SR_isKnown_11 (by decide) (fun c19 k20 => ?_) (fun c19 k20 => ?_) ?_
    · refine j_iconst (v := (1 : Int32)) C d_SR_isKnown_49 (by decide) ?_
      refine j_goto (tgt := 54) C d_SR_isKnown_50 (by decide) ?_
      exact k20
    · refine j_iload_n C d_SR_isKnown_14 0 rfl ?_
      refine j_sipush (v := (247 : Int32)) C d_SR_isKnown_15 (by decide) ?_
      refine d_icmp_eq (a := (1 : Int32)) (b := (if x0 = (248 : Int32) then (1 : Int32) else (if x0 = (221 : Int32) then (1 : Int32) else (if x0 = (218 : Int32) then (1 : Int32) else (if x0 = (217 : Int32) then (1 : Int32) else (0 : Int32)))))) (jp := 54) (tgt := 49) C d_SR_isKnown_18 (by decide) (fun c21 k22 => ?_) (fun c21 k22 => ?_) ?_
      · refine j_iconst (v := (1 : Int32)) C d_SR_isKnown_49 (by decide) ?_
        refine j_goto (tgt := 54) C d_SR_isKnown_50 (by decide) ?_
        exact k22
      · refine j_iload_n C d_SR_isKnown_21 0 rfl ?_
        refine j_sipush (v := (248 : Int32)) C d_SR_isKnown_22 (by decide) ?_
        refine d_icmp_eq (a := (1 : Int32)) (b := (if x0 = (221 : Int32) then (1 : Int32) else (if x0 = (218 : Int32) then (1 : Int32) else (if x0 = (217 : Int32) then (1 : Int32) else (0 : Int32))))) (jp := 54) (tgt := 49) C d_SR_isKnown_25 (by decide) (fun c23 k24 => ?_) (fun c23 k24 => ?_) ?_
        · refine j_iconst (v := (1 : Int32)) C d_SR_isKnown_49 (by decide) ?_
          refine j_goto (tgt := 54) C d_SR_isKnown_50 (by decide) ?_
          exact k24
        · refine j_iload_n C d_SR_isKnown_28 0 rfl ?_
          refine j_sipush (v := (221 : Int32)) C d_SR_isKnown_29 (by decide) ?_
          refine d_icmp_eq (a := (1 : Int32)) (b := (if x0 = (218 : Int32) then (1 : Int32) else (if x0 = (217 : Int32) then (1 : Int32) else (0 : Int32)))) (jp := 54) (tgt := 49) C d_SR_isKnown_32 (by decide) (fun c25 k26 => ?_) (fun c25 k26 => ?_) ?_
          · refine j_iconst (v := (1 : Int32)) C d_SR_isKnown_49 (by decide) ?_
            refine j_goto (tgt := 54) C d_SR_isKnown_50 (by decide) ?_
            exact k26
          · refine j_iload_n C d_SR_isKnown_35 0 rfl ?_
            refine j_sipush (v := (218 : Int32)) C d_SR_isKnown_36 (by decide) ?_
            refine d_icmp_eq (a := (1 : Int32)) (b := (if x0 = (217 : Int32) then (1 : Int32) else (0 : Int32))) (jp := 54) (tgt := 49) C d_SR_isKnown_39 (by decide) (fun c27 k28 => ?_) (fun c27 k28 => ?_) ?_
            · refine j_iconst (v := (1 : Int32)) C d_SR_isKnown_49 (by decide) ?_
              refine j_goto (tgt := 54) C d_SR_isKnown_50 (by decide) ?_
              exact k28
            · refine j_iload_n C d_SR_isKnown_42 0 rfl ?_
              refine j_sipush (v := (217 : Int32)) C d_SR_isKnown_43 (by decide) ?_
              refine d_icmp_ne (a := (1 : Int32)) (b := (0 : Int32)) (jp := 54) (tgt := 53) C d_SR_isKnown_46 (by decide) (fun c29 k30 => ?_) (fun c29 k30 => ?_) ?_
              · refine j_iconst (v := (0 : Int32)) C d_SR_isKnown_53 (by decide) ?_
                exact k30
              · refine j_iconst (v := (1 : Int32)) C d_SR_isKnown_49 (by decide) ?_
                refine j_goto (tgt := 54) C d_SR_isKnown_50 (by decide) ?_
                exact k30
              exact k28
            exact k26
          exact k24
        exact k22
      exact k20
    exact k18
  exact j_iretz C (fun ρ h => leaf_eq h) (nz01 (ite01 (ite01 (Or.inr rfl) (ite01 (Or.inr rfl) (ite01 (Or.inr rfl) (ite01 (Or.inr rfl) (ite01 (Or.inr rfl) (ite01 (Or.inr rfl) (Or.inl rfl))))))) (Or.inr rfl))) d_SR_isKnown_54
theorem c_SR_isKnown {l : Launch} {D : va_G} {G : GC} {ad : Nat → Nat} (x0 : Int32) (σ : Mem) : Ctr l D G ad ⟨"LineFrames$StreamReader", "isKnown", "(I)Z"⟩ prog_10_method_7_code 1 (some .boolean) 1 20 [.int x0] σ (.inl (some (.int (f_SR_isKnown x0 σ))), σ) := ctr_J (cv := (cvI σ)) (E := f_SR_isKnown x0 σ) (by decide +kernel) (Nat.le_of_ble_eq_true rfl) rfl (fun F h C => by subst h; exact w_SR_isKnown C x0 σ)
theorem z_SR_isKnown (x0 : Int32) (σ : Mem) : f_SR_isKnown x0 σ = 0 ∨ f_SR_isKnown x0 σ = 1 := by
  unfold f_SR_isKnown
  try simp only [lt]
  repeat' split
  all_goals first | exact Or.inl rfl | exact Or.inr rfl
/-! LineFrames$Row get (I)I -/
theorem d_RO_get_0 : decode prog_9_method_2_code 0 = .ok (.iload_n 1, 1) := by decide +kernel
theorem d_RO_get_1 : decode prog_9_method_2_code 1 = .ok (.ifCond .lt 21, 3) := by decide +kernel
theorem d_RO_get_4 : decode prog_9_method_2_code 4 = .ok (.iload_n 1, 1) := by decide +kernel
theorem d_RO_get_5 : decode prog_9_method_2_code 5 = .ok (.aload_n 0, 1) := by decide +kernel
theorem d_RO_get_6 : decode prog_9_method_2_code 6 = .ok (.getfield 13, 3) := by decide +kernel
theorem d_RO_get_9 : decode prog_9_method_2_code 9 = .ok (.arraylength, 1) := by decide +kernel
theorem d_RO_get_10 : decode prog_9_method_2_code 10 = .ok (.if_icmp .ge 12, 3) := by decide +kernel
theorem d_RO_get_13 : decode prog_9_method_2_code 13 = .ok (.aload_n 0, 1) := by decide +kernel
theorem d_RO_get_14 : decode prog_9_method_2_code 14 = .ok (.getfield 13, 3) := by decide +kernel
theorem d_RO_get_17 : decode prog_9_method_2_code 17 = .ok (.iload_n 1, 1) := by decide +kernel
theorem d_RO_get_18 : decode prog_9_method_2_code 18 = .ok (.iaload, 1) := by decide +kernel
theorem d_RO_get_19 : decode prog_9_method_2_code 19 = .ok (.goto 4, 3) := by decide +kernel
theorem d_RO_get_22 : decode prog_9_method_2_code 22 = .ok (.iconst 0, 1) := by decide +kernel
theorem d_RO_get_23 : decode prog_9_method_2_code 23 = .ok (.ireturn, 1) := by decide +kernel
def f_RO_get (k0 : Nat) (x1 : Int32) (σ : Mem) : Int32 :=
  (if x1 < 0 then (0 : Int32) else (if (nI (wln (wtg k0 0))) ≤ x1 then (0 : Int32) else (σ (wtg k0 0) x1.toNatClampNeg)))
set_option maxHeartbeats 4000000 in
set_option maxRecDepth 100000 in
theorem w_RO_get {F : Fx} (C : Ctx F prog_9_method_2_code 2 "LineFrames$Row" (some .int) 0 0) {k0 : Nat} (h0k : Is k0 8) (x1 : Int32) (σ : Mem) : J F 2 (cvI σ) (f_RO_get k0 x1 σ) σ 0 [(0, .ref (fad F k0)), (1, .int x1)] [] := by
  unfold f_RO_get
  refine j_iload_n C d_RO_get_0 1 rfl ?_
  refine d_if_lt (a := (0 : Int32)) (b := (if (nI (wln (wtg k0 0))) ≤ x1 then (0 : Int32) else (σ (wtg k0 0) x1.toNatClampNeg))) (jp := 23) (tgt := 22) C d_RO_get_1 (by decide) (fun c3 k4 => ?_) (fun c3 k4 => ?_) ?_
  · refine j_iconst (v := (0 : Int32)) C d_RO_get_22 (by decide) ?_
    exact k4
  · refine j_iload_n C d_RO_get_4 1 rfl ?_
    refine j_aload_n C d_RO_get_5 0 rfl ?_
    refine j_getR C h0k fl_RO_13 rfl d_RO_get_6 ?_
    refine j_alen C (tg_8_0 _ h0k) d_RO_get_9 ?_
    refine d_icmp_ge (a := (0 : Int32)) (b := (σ (wtg k0 0) x1.toNatClampNeg)) (jp := 23) (tgt := 22) C d_RO_get_10 (by decide) (fun c5 k6 => ?_) (fun c5 k6 => ?_) ?_
    · refine j_iconst (v := (0 : Int32)) C d_RO_get_22 (by decide) ?_
      exact k6
    · refine j_aload_n C d_RO_get_13 0 rfl ?_
      refine j_getR C h0k fl_RO_13 rfl d_RO_get_14 ?_
      refine j_iload_n C d_RO_get_17 1 rfl ?_
      refine j_iald C (tg_8_0 _ h0k) (vp_gd c3 c5 (wln_lt _)) d_RO_get_18 ?_
      refine j_goto (tgt := 23) C d_RO_get_19 (by decide) ?_
      exact k6
    exact k4
  exact j_ireti C (fun ρ h => leaf_eq h) d_RO_get_23
theorem c_RO_get {l : Launch} {D : va_G} {G : GC} {ad : Nat → Nat} {k0 : Nat} (h0k : Is k0 8) (x1 : Int32) (σ : Mem) : Ctr l D G ad ⟨"LineFrames$Row", "get", "(I)I"⟩ prog_9_method_2_code 2 (some .int) 0 0 [.ref (ad k0), .int x1] σ (.inl (some (.int (f_RO_get k0 x1 σ))), σ) := ctr_J (cv := (cvI σ)) (E := f_RO_get k0 x1 σ) (by decide +kernel) (Nat.le_of_ble_eq_true rfl) rfl (fun F h C => by subst h; exact w_RO_get C h0k x1 σ)
/-! LineFrames$StreamReader allScanned ()Z -/
theorem d_SR_allScanned_0 : decode prog_10_method_9_code 0 = .ok (.iconst 0, 1) := by decide +kernel
theorem d_SR_allScanned_1 : decode prog_10_method_9_code 1 = .ok (.istore_n 1, 1) := by decide +kernel
theorem d_SR_allScanned_2 : decode prog_10_method_9_code 2 = .ok (.iload_n 1, 1) := by decide +kernel
theorem d_SR_allScanned_3 : decode prog_10_method_9_code 3 = .ok (.aload_n 0, 1) := by decide +kernel
theorem d_SR_allScanned_4 : decode prog_10_method_9_code 4 = .ok (.getfield 12, 3) := by decide +kernel
theorem d_SR_allScanned_7 : decode prog_10_method_9_code 7 = .ok (.getfield 136, 3) := by decide +kernel
theorem d_SR_allScanned_10 : decode prog_10_method_9_code 10 = .ok (.if_icmp .ge 22, 3) := by decide +kernel
theorem d_SR_allScanned_13 : decode prog_10_method_9_code 13 = .ok (.aload_n 0, 1) := by decide +kernel
theorem d_SR_allScanned_14 : decode prog_10_method_9_code 14 = .ok (.getfield 43, 3) := by decide +kernel
theorem d_SR_allScanned_17 : decode prog_10_method_9_code 17 = .ok (.iload_n 1, 1) := by decide +kernel
theorem d_SR_allScanned_18 : decode prog_10_method_9_code 18 = .ok (.invokevirtual 142, 3) := by decide +kernel
theorem d_SR_allScanned_21 : decode prog_10_method_9_code 21 = .ok (.ifCond .ne 5, 3) := by decide +kernel
theorem d_SR_allScanned_24 : decode prog_10_method_9_code 24 = .ok (.iconst 0, 1) := by decide +kernel
theorem d_SR_allScanned_25 : decode prog_10_method_9_code 25 = .ok (.ireturn, 1) := by decide +kernel
theorem d_SR_allScanned_26 : decode prog_10_method_9_code 26 = .ok (.iinc 1 1, 3) := by decide +kernel
theorem d_SR_allScanned_29 : decode prog_10_method_9_code 29 = .ok (.goto (-27), 3) := by decide +kernel
theorem d_SR_allScanned_32 : decode prog_10_method_9_code 32 = .ok (.iconst 1, 1) := by decide +kernel
theorem d_SR_allScanned_33 : decode prog_10_method_9_code 33 = .ok (.ireturn, 1) := by decide +kernel
def L_SR_allScanned_2 (r0 : Nat) (σ : Mem) : Nat → Int32 →  Option ((Int32) ⊕ Int32)
  | 0, _ => none
  | n + 1, a1 =>
  if (σ (wtg r0 1) 8) ≤ a1 then
  some (.inl a1)
  else
  if (f_RO_get (wtg r0 5) a1 σ) = 0 then
  some (.inr (0 : Int32))
  else
  L_SR_allScanned_2 r0 σ n (a1 + (1 : Int32))
def f_SR_allScanned (k0 : Nat) (σ : Mem) : Option (Int32) :=
  (L_SR_allScanned_2 k0 σ 9999 (0 : Int32)).bind fun q3_ => ecase q3_ (fun q3 =>
  some (1 : Int32)) (fun e4 => some e4)
set_option maxHeartbeats 4000000 in
set_option maxRecDepth 100000 in
theorem wL_SR_allScanned_2 {F : Fx} (C : Ctx F prog_10_method_9_code 2 "LineFrames$StreamReader" (some .boolean) 1 21) {cv : Option ((Int32) ⊕ Int32) → Option Rs} (h0 : cv none = none) (r0 : Nat) (hr0 : Is r0 9) (σ : Mem) (hR : ∀ (e : Int32) (ρ : Rs), cv (some (.inr e)) = some ρ → ρ = (.inl (some (.int e)), σ)) (hex : ∀ q : Int32, J F 2 cv (some (.inl q)) σ 32 [(0, .ref (fad F r0)), (1, .int q)] []) : ∀ (n : Nat) (a1 : Int32), J F 2 cv (L_SR_allScanned_2 r0 σ n a1) σ 2 [(0, .ref (fad F r0)), (1, .int a1)] [] := by
  intro n
  induction n with
  | zero => intro a1 hE; rw [L_SR_allScanned_2, h0] at hE; cases hE
  | succ n ih =>
    intro a1
    rw [L_SR_allScanned_2]
    refine j_iload_n C d_SR_allScanned_2 1 rfl ?_
    refine j_aload_n C d_SR_allScanned_3 0 rfl ?_
    refine j_getR C hr0 fl_SR_12 rfl d_SR_allScanned_4 ?_
    refine j_getI C (tg_9_1 _ hr0) fl_SR_136 rfl d_SR_allScanned_7 ?_
    refine j_icmp_ge (tgt := 32) C d_SR_allScanned_10 (by decide) (fun c1 => ?_) (fun c1 => ?_)
    · exact hex a1
    · refine j_aload_n C d_SR_allScanned_13 0 rfl ?_
      refine j_getR C hr0 fl_SR_43 rfl d_SR_allScanned_14 ?_
      refine j_iload_n C d_SR_allScanned_17 1 rfl ?_
      refine j_callVi C mv_SR_142 [.int a1] [] (tg_9_5 _ hr0) (c_RO_get (tg_9_5 _ hr0) a1 σ) rfl rfl (by decide) (Nat.le_of_ble_eq_true rfl) d_SR_allScanned_18 ?_
      refine j_if_ne (tgt := 26) C d_SR_allScanned_21 (by decide) (fun c2 => ?_) (fun c2 => ?_)
      · refine j_iinc (v := (a1 + (1 : Int32))) (lv9 := [(0, .ref (fad F r0)), (1, .int (a1 + (1 : Int32)))]) C d_SR_allScanned_26 1 rfl rfl rfl rfl (by decide) ?_
        refine j_goto (tgt := 2) C d_SR_allScanned_29 (by decide) ?_
        exact ih (a1 + (1 : Int32))
      · refine j_iconst (v := (0 : Int32)) C d_SR_allScanned_24 (by decide) ?_
        exact j_iretz C (hR (0 : Int32)) (nz01 (Or.inl rfl)) d_SR_allScanned_25
set_option maxHeartbeats 4000000 in
set_option maxRecDepth 100000 in
theorem w_SR_allScanned {F : Fx} (C : Ctx F prog_10_method_9_code 2 "LineFrames$StreamReader" (some .boolean) 1 21) {k0 : Nat} (h0k : Is k0 9) (σ : Mem) : J F 2 (cvO (cvI σ)) (f_SR_allScanned k0 σ) σ 0 [(0, .ref (fad F k0))] [] := by
  unfold f_SR_allScanned
  refine j_iconst (v := (0 : Int32)) C d_SR_allScanned_0 (by decide) ?_
  refine j_istore_n (lv9 := [(0, .ref (fad F k0)), (1, .int (0 : Int32))]) C d_SR_allScanned_1 rfl rfl (by decide) ?_
  refine j_loop (wL_SR_allScanned_2 C rfl k0 h0k σ (fun e4 ρ h => leaf_eq h) (fun q3 => j_some ?_) 9999 (0 : Int32))
  refine j_iconst (v := (1 : Int32)) C d_SR_allScanned_32 (by decide) ?_
  exact j_iretz C (fun ρ h => leaf_eq h) (nz01 (Or.inr rfl)) d_SR_allScanned_33
theorem c_SR_allScanned {l : Launch} {D : va_G} {G : GC} {ad : Nat → Nat} {k0 : Nat} (h0k : Is k0 9) (σ : Mem) {q : Int32} (hq : f_SR_allScanned k0 σ = some q) : Ctr l D G ad ⟨"LineFrames$StreamReader", "allScanned", "()Z"⟩ prog_10_method_9_code 2 (some .boolean) 1 21 [.ref (ad k0)] σ (.inl (some (.int q)), σ) := ctr_J (cv := (cvO (cvI σ))) (E := f_SR_allScanned k0 σ) (by decide +kernel) (Nat.le_of_ble_eq_true rfl) (by rw [hq]; rfl) (fun F h C => by subst h; exact w_SR_allScanned C h0k σ)
/-! LineFrames$StreamReader isTooSoonOrLate (I)Z -/
theorem d_SR_isTooSoonOrLate_0 : decode prog_10_method_8_code 0 = .ok (.aload_n 0, 1) := by decide +kernel
theorem d_SR_isTooSoonOrLate_1 : decode prog_10_method_8_code 1 = .ok (.getfield 12, 3) := by decide +kernel
theorem d_SR_isTooSoonOrLate_4 : decode prog_10_method_8_code 4 = .ok (.getfield 136, 3) := by decide +kernel
theorem d_SR_isTooSoonOrLate_7 : decode prog_10_method_8_code 7 = .ok (.ifCond .eq 7, 3) := by decide +kernel
theorem d_SR_isTooSoonOrLate_10 : decode prog_10_method_8_code 10 = .ok (.iconst 1, 1) := by decide +kernel
theorem d_SR_isTooSoonOrLate_11 : decode prog_10_method_8_code 11 = .ok (.goto 4, 3) := by decide +kernel
theorem d_SR_isTooSoonOrLate_14 : decode prog_10_method_8_code 14 = .ok (.iconst 0, 1) := by decide +kernel
theorem d_SR_isTooSoonOrLate_15 : decode prog_10_method_8_code 15 = .ok (.istore_n 2, 1) := by decide +kernel
theorem d_SR_isTooSoonOrLate_16 : decode prog_10_method_8_code 16 = .ok (.iload_n 1, 1) := by decide +kernel
theorem d_SR_isTooSoonOrLate_17 : decode prog_10_method_8_code 17 = .ok (.lookupswitch 97 #[(217, 80), (218, 53), (221, 63), (247, 51), (248, 63)], 51) := by decide +kernel
theorem d_SR_isTooSoonOrLate_68 : decode prog_10_method_8_code 68 = .ok (.iload_n 2, 1) := by decide +kernel
theorem d_SR_isTooSoonOrLate_69 : decode prog_10_method_8_code 69 = .ok (.ireturn, 1) := by decide +kernel
theorem d_SR_isTooSoonOrLate_70 : decode prog_10_method_8_code 70 = .ok (.iload_n 2, 1) := by decide +kernel
theorem d_SR_isTooSoonOrLate_71 : decode prog_10_method_8_code 71 = .ok (.ifCond .ne 7, 3) := by decide +kernel
theorem d_SR_isTooSoonOrLate_74 : decode prog_10_method_8_code 74 = .ok (.iconst 1, 1) := by decide +kernel
theorem d_SR_isTooSoonOrLate_75 : decode prog_10_method_8_code 75 = .ok (.goto 4, 3) := by decide +kernel
theorem d_SR_isTooSoonOrLate_78 : decode prog_10_method_8_code 78 = .ok (.iconst 0, 1) := by decide +kernel
theorem d_SR_isTooSoonOrLate_79 : decode prog_10_method_8_code 79 = .ok (.ireturn, 1) := by decide +kernel
theorem d_SR_isTooSoonOrLate_80 : decode prog_10_method_8_code 80 = .ok (.iload_n 2, 1) := by decide +kernel
theorem d_SR_isTooSoonOrLate_81 : decode prog_10_method_8_code 81 = .ok (.ifCond .eq 10, 3) := by decide +kernel
theorem d_SR_isTooSoonOrLate_84 : decode prog_10_method_8_code 84 = .ok (.aload_n 0, 1) := by decide +kernel
theorem d_SR_isTooSoonOrLate_85 : decode prog_10_method_8_code 85 = .ok (.getfield 69, 3) := by decide +kernel
theorem d_SR_isTooSoonOrLate_88 : decode prog_10_method_8_code 88 = .ok (.ifCond .eq 7, 3) := by decide +kernel
theorem d_SR_isTooSoonOrLate_91 : decode prog_10_method_8_code 91 = .ok (.iconst 1, 1) := by decide +kernel
theorem d_SR_isTooSoonOrLate_92 : decode prog_10_method_8_code 92 = .ok (.goto 4, 3) := by decide +kernel
theorem d_SR_isTooSoonOrLate_95 : decode prog_10_method_8_code 95 = .ok (.iconst 0, 1) := by decide +kernel
theorem d_SR_isTooSoonOrLate_96 : decode prog_10_method_8_code 96 = .ok (.ireturn, 1) := by decide +kernel
theorem d_SR_isTooSoonOrLate_97 : decode prog_10_method_8_code 97 = .ok (.iload_n 2, 1) := by decide +kernel
theorem d_SR_isTooSoonOrLate_98 : decode prog_10_method_8_code 98 = .ok (.ifCond .eq 10, 3) := by decide +kernel
theorem d_SR_isTooSoonOrLate_101 : decode prog_10_method_8_code 101 = .ok (.aload_n 0, 1) := by decide +kernel
theorem d_SR_isTooSoonOrLate_102 : decode prog_10_method_8_code 102 = .ok (.invokevirtual 139, 3) := by decide +kernel
theorem d_SR_isTooSoonOrLate_105 : decode prog_10_method_8_code 105 = .ok (.ifCond .ne 7, 3) := by decide +kernel
theorem d_SR_isTooSoonOrLate_108 : decode prog_10_method_8_code 108 = .ok (.iconst 1, 1) := by decide +kernel
theorem d_SR_isTooSoonOrLate_109 : decode prog_10_method_8_code 109 = .ok (.goto 4, 3) := by decide +kernel
theorem d_SR_isTooSoonOrLate_112 : decode prog_10_method_8_code 112 = .ok (.iconst 0, 1) := by decide +kernel
theorem d_SR_isTooSoonOrLate_113 : decode prog_10_method_8_code 113 = .ok (.ireturn, 1) := by decide +kernel
theorem d_SR_isTooSoonOrLate_114 : decode prog_10_method_8_code 114 = .ok (.iconst 0, 1) := by decide +kernel
theorem d_SR_isTooSoonOrLate_115 : decode prog_10_method_8_code 115 = .ok (.ireturn, 1) := by decide +kernel
def f_SR_isTooSoonOrLate (k0 : Nat) (x1 : Int32) (σ : Mem) : Option (Int32) :=
  lt (if (σ (wtg k0 1) 8) = 0 then (0 : Int32) else (1 : Int32)) fun v3 =>
  if x1 = 217 then
  if v3 = 0 then
  some (1 : Int32)
  else
  (f_SR_allScanned k0 σ).bind fun r17 =>
  some (if r17 = 0 then (1 : Int32) else (0 : Int32))
  else
  if x1 = 218 then
  some (if v3 = 0 then (1 : Int32) else (0 : Int32))
  else
  if x1 = 221 then
  some (if v3 = 0 then (1 : Int32) else (if (σ k0 13) = 0 then (0 : Int32) else (1 : Int32)))
  else
  if x1 = 247 then
  some v3
  else
  if x1 = 248 then
  some (if v3 = 0 then (1 : Int32) else (if (σ k0 13) = 0 then (0 : Int32) else (1 : Int32)))
  else
  some (0 : Int32)
set_option maxHeartbeats 4000000 in
set_option maxRecDepth 100000 in
theorem w_SR_isTooSoonOrLate {F : Fx} (C : Ctx F prog_10_method_8_code 3 "LineFrames$StreamReader" (some .boolean) 2 42) {k0 : Nat} (h0k : Is k0 9) (x1 : Int32) (σ : Mem) : J F 3 (cvO (cvI σ)) (f_SR_isTooSoonOrLate k0 x1 σ) σ 0 [(0, .ref (fad F k0)), (1, .int x1)] [] := by
  unfold f_SR_isTooSoonOrLate
  refine j_aload_n C d_SR_isTooSoonOrLate_0 0 rfl ?_
  refine j_getR C h0k fl_SR_12 rfl d_SR_isTooSoonOrLate_1 ?_
  refine j_getI C (tg_9_1 _ h0k) fl_SR_136 rfl d_SR_isTooSoonOrLate_4 ?_
  refine d_if_eq (a := (0 : Int32)) (b := (1 : Int32)) (jp := 15) (tgt := 14) C d_SR_isTooSoonOrLate_7 (by decide) (fun c1 k2 => ?_) (fun c1 k2 => ?_) ?_
  · refine j_iconst (v := (0 : Int32)) C d_SR_isTooSoonOrLate_14 (by decide) ?_
    exact k2
  · refine j_iconst (v := (1 : Int32)) C d_SR_isTooSoonOrLate_10 (by decide) ?_
    refine j_goto (tgt := 15) C d_SR_isTooSoonOrLate_11 (by decide) ?_
    exact k2
  refine j_nm (fun v3 v3_e => ?_)
  refine j_istore_n (lv9 := [(0, .ref (fad F k0)), (1, .int x1), (2, .int v3)]) C d_SR_isTooSoonOrLate_15 rfl rfl (by decide) ?_
  refine j_iload_n C d_SR_isTooSoonOrLate_16 1 rfl ?_
  refine j_case (fun c4 => ?_) (fun c4 => ?_)
  · refine j_look (off := 80) (tgt := 97) C d_SR_isTooSoonOrLate_17 (by decide) (by rw [c4] <;> decide) (by decide) ?_
    refine j_iload_n C d_SR_isTooSoonOrLate_97 2 rfl ?_
    refine j_if_eq (tgt := 108) C d_SR_isTooSoonOrLate_98 (by decide) (fun c15 => ?_) (fun c15 => ?_)
    · refine j_iconst (v := (1 : Int32)) C d_SR_isTooSoonOrLate_108 (by decide) ?_
      refine j_goto (tgt := 113) C d_SR_isTooSoonOrLate_109 (by decide) ?_
      exact j_iretz C (fun ρ h => leaf_eq h) (nz01 (Or.inr rfl)) d_SR_isTooSoonOrLate_113
    · refine j_aload_n C d_SR_isTooSoonOrLate_101 0 rfl ?_
      refine j_bind rfl (fun r17 e16 => ?_)
      refine j_callVi C mv_SR_139 [] [] h0k (c_SR_allScanned h0k σ e16) rfl rfl (by decide) (Nat.le_of_ble_eq_true rfl) d_SR_isTooSoonOrLate_102 ?_
      refine d_if_ne (a := (1 : Int32)) (b := (0 : Int32)) (jp := 113) (tgt := 112) C d_SR_isTooSoonOrLate_105 (by decide) (fun c18 k19 => ?_) (fun c18 k19 => ?_) ?_
      · refine j_iconst (v := (0 : Int32)) C d_SR_isTooSoonOrLate_112 (by decide) ?_
        exact k19
      · refine j_iconst (v := (1 : Int32)) C d_SR_isTooSoonOrLate_108 (by decide) ?_
        refine j_goto (tgt := 113) C d_SR_isTooSoonOrLate_109 (by decide) ?_
        exact k19
      exact j_iretz C (fun ρ h => leaf_eq h) (nz01 (ite01 (Or.inr rfl) (Or.inl rfl))) d_SR_isTooSoonOrLate_113
  · refine j_case (fun c5 => ?_) (fun c5 => ?_)
    · refine j_look (off := 53) (tgt := 70) C d_SR_isTooSoonOrLate_17 (by decide) (by rw [c5] <;> decide) (by decide) ?_
      refine j_iload_n C d_SR_isTooSoonOrLate_70 2 rfl ?_
      refine d_if_ne (a := (1 : Int32)) (b := (0 : Int32)) (jp := 79) (tgt := 78) C d_SR_isTooSoonOrLate_71 (by decide) (fun c20 k21 => ?_) (fun c20 k21 => ?_) ?_
      · refine j_iconst (v := (0 : Int32)) C d_SR_isTooSoonOrLate_78 (by decide) ?_
        exact k21
      · refine j_iconst (v := (1 : Int32)) C d_SR_isTooSoonOrLate_74 (by decide) ?_
        refine j_goto (tgt := 79) C d_SR_isTooSoonOrLate_75 (by decide) ?_
        exact k21
      exact j_iretz C (fun ρ h => leaf_eq h) (nz01 (ite01 (Or.inr rfl) (Or.inl rfl))) d_SR_isTooSoonOrLate_79
    · refine j_case (fun c6 => ?_) (fun c6 => ?_)
      · refine j_look (off := 63) (tgt := 80) C d_SR_isTooSoonOrLate_17 (by decide) (by rw [c6] <;> decide) (by decide) ?_
        refine j_iload_n C d_SR_isTooSoonOrLate_80 2 rfl ?_
        refine d_if_eq (a := (1 : Int32)) (b := (if (σ k0 13) = 0 then (0 : Int32) else (1 : Int32))) (jp := 96) (tgt := 91) C d_SR_isTooSoonOrLate_81 (by decide) (fun c28 k29 => ?_) (fun c28 k29 => ?_) ?_
        · refine j_iconst (v := (1 : Int32)) C d_SR_isTooSoonOrLate_91 (by decide) ?_
          refine j_goto (tgt := 96) C d_SR_isTooSoonOrLate_92 (by decide) ?_
          exact k29
        · refine j_aload_n C d_SR_isTooSoonOrLate_84 0 rfl ?_
          refine j_getI C h0k fl_SR_69 rfl d_SR_isTooSoonOrLate_85 ?_
          refine d_if_eq (a := (0 : Int32)) (b := (1 : Int32)) (jp := 96) (tgt := 95) C d_SR_isTooSoonOrLate_88 (by decide) (fun c30 k31 => ?_) (fun c30 k31 => ?_) ?_
          · refine j_iconst (v := (0 : Int32)) C d_SR_isTooSoonOrLate_95 (by decide) ?_
            exact k31
          · refine j_iconst (v := (1 : Int32)) C d_SR_isTooSoonOrLate_91 (by decide) ?_
            refine j_goto (tgt := 96) C d_SR_isTooSoonOrLate_92 (by decide) ?_
            exact k31
          exact k29
        exact j_iretz C (fun ρ h => leaf_eq h) (nz01 (ite01 (Or.inr rfl) (ite01 (Or.inl rfl) (Or.inr rfl)))) d_SR_isTooSoonOrLate_96
      · refine j_case (fun c7 => ?_) (fun c7 => ?_)
        · refine j_look (off := 51) (tgt := 68) C d_SR_isTooSoonOrLate_17 (by decide) (by rw [c7] <;> decide) (by decide) ?_
          refine j_iload_n C d_SR_isTooSoonOrLate_68 2 rfl ?_
          exact j_iretz C (fun ρ h => leaf_eq h) (nz01 (eq01 v3_e (ite01 (Or.inl rfl) (Or.inr rfl)))) d_SR_isTooSoonOrLate_69
        · refine j_case (fun c8 => ?_) (fun c8 => ?_)
          · refine j_look (off := 63) (tgt := 80) C d_SR_isTooSoonOrLate_17 (by decide) (by rw [c8] <;> decide) (by decide) ?_
            refine j_iload_n C d_SR_isTooSoonOrLate_80 2 rfl ?_
            refine d_if_eq (a := (1 : Int32)) (b := (if (σ k0 13) = 0 then (0 : Int32) else (1 : Int32))) (jp := 96) (tgt := 91) C d_SR_isTooSoonOrLate_81 (by decide) (fun c38 k39 => ?_) (fun c38 k39 => ?_) ?_
            · refine j_iconst (v := (1 : Int32)) C d_SR_isTooSoonOrLate_91 (by decide) ?_
              refine j_goto (tgt := 96) C d_SR_isTooSoonOrLate_92 (by decide) ?_
              exact k39
            · refine j_aload_n C d_SR_isTooSoonOrLate_84 0 rfl ?_
              refine j_getI C h0k fl_SR_69 rfl d_SR_isTooSoonOrLate_85 ?_
              refine d_if_eq (a := (0 : Int32)) (b := (1 : Int32)) (jp := 96) (tgt := 95) C d_SR_isTooSoonOrLate_88 (by decide) (fun c40 k41 => ?_) (fun c40 k41 => ?_) ?_
              · refine j_iconst (v := (0 : Int32)) C d_SR_isTooSoonOrLate_95 (by decide) ?_
                exact k41
              · refine j_iconst (v := (1 : Int32)) C d_SR_isTooSoonOrLate_91 (by decide) ?_
                refine j_goto (tgt := 96) C d_SR_isTooSoonOrLate_92 (by decide) ?_
                exact k41
              exact k39
            exact j_iretz C (fun ρ h => leaf_eq h) (nz01 (ite01 (Or.inr rfl) (ite01 (Or.inl rfl) (Or.inr rfl)))) d_SR_isTooSoonOrLate_96
          · refine j_look (off := 97) (tgt := 114) C d_SR_isTooSoonOrLate_17 (by decide) (by rw [lv_osw c4 (by decide), lv_osw c5 (by decide), lv_osw c6 (by decide), lv_osw c7 (by decide), lv_osw c8 (by decide)] <;> rfl) (by decide) ?_
            refine j_iconst (v := (0 : Int32)) C d_SR_isTooSoonOrLate_114 (by decide) ?_
            exact j_iretz C (fun ρ h => leaf_eq h) (nz01 (Or.inl rfl)) d_SR_isTooSoonOrLate_115
theorem c_SR_isTooSoonOrLate {l : Launch} {D : va_G} {G : GC} {ad : Nat → Nat} {k0 : Nat} (h0k : Is k0 9) (x1 : Int32) (σ : Mem) {q : Int32} (hq : f_SR_isTooSoonOrLate k0 x1 σ = some q) : Ctr l D G ad ⟨"LineFrames$StreamReader", "isTooSoonOrLate", "(I)Z"⟩ prog_10_method_8_code 3 (some .boolean) 2 42 [.ref (ad k0), .int x1] σ (.inl (some (.int q)), σ) := ctr_J (cv := (cvO (cvI σ))) (E := f_SR_isTooSoonOrLate k0 x1 σ) (by decide +kernel) (Nat.le_of_ble_eq_true rfl) (by rw [hq]; rfl) (fun F h C => by subst h; exact w_SR_isTooSoonOrLate C h0k x1 σ)
/-! LineFrames$StreamReader markAt (I)I -/
theorem d_SR_markAt_0 : decode prog_10_method_5_code 0 = .ok (.aload_n 0, 1) := by decide +kernel
theorem d_SR_markAt_1 : decode prog_10_method_5_code 1 = .ok (.getfield 72, 3) := by decide +kernel
theorem d_SR_markAt_4 : decode prog_10_method_5_code 4 = .ok (.invokevirtual 117, 3) := by decide +kernel
theorem d_SR_markAt_7 : decode prog_10_method_5_code 7 = .ok (.iload_n 1, 1) := by decide +kernel
theorem d_SR_markAt_8 : decode prog_10_method_5_code 8 = .ok (.isub, 1) := by decide +kernel
theorem d_SR_markAt_9 : decode prog_10_method_5_code 9 = .ok (.iconst 2, 1) := by decide +kernel
theorem d_SR_markAt_10 : decode prog_10_method_5_code 10 = .ok (.if_icmp .ge 20, 3) := by decide +kernel
theorem d_SR_markAt_13 : decode prog_10_method_5_code 13 = .ok (.aload_n 0, 1) := by decide +kernel
theorem d_SR_markAt_14 : decode prog_10_method_5_code 14 = .ok (.getfield 21, 3) := by decide +kernel
theorem d_SR_markAt_17 : decode prog_10_method_5_code 17 = .ok (.iconst 1, 1) := by decide +kernel
theorem d_SR_markAt_18 : decode prog_10_method_5_code 18 = .ok (.aload_n 0, 1) := by decide +kernel
theorem d_SR_markAt_19 : decode prog_10_method_5_code 19 = .ok (.getfield 72, 3) := by decide +kernel
theorem d_SR_markAt_22 : decode prog_10_method_5_code 22 = .ok (.invokevirtual 117, 3) := by decide +kernel
theorem d_SR_markAt_25 : decode prog_10_method_5_code 25 = .ok (.invokevirtual 110, 3) := by decide +kernel
theorem d_SR_markAt_28 : decode prog_10_method_5_code 28 = .ok (.iconst (-1), 1) := by decide +kernel
theorem d_SR_markAt_29 : decode prog_10_method_5_code 29 = .ok (.ireturn, 1) := by decide +kernel
theorem d_SR_markAt_30 : decode prog_10_method_5_code 30 = .ok (.aload_n 0, 1) := by decide +kernel
theorem d_SR_markAt_31 : decode prog_10_method_5_code 31 = .ok (.getfield 72, 3) := by decide +kernel
theorem d_SR_markAt_34 : decode prog_10_method_5_code 34 = .ok (.iload_n 1, 1) := by decide +kernel
theorem d_SR_markAt_35 : decode prog_10_method_5_code 35 = .ok (.iconst 1, 1) := by decide +kernel
theorem d_SR_markAt_36 : decode prog_10_method_5_code 36 = .ok (.iadd, 1) := by decide +kernel
theorem d_SR_markAt_37 : decode prog_10_method_5_code 37 = .ok (.invokevirtual 123, 3) := by decide +kernel
theorem d_SR_markAt_40 : decode prog_10_method_5_code 40 = .ok (.istore_n 2, 1) := by decide +kernel
theorem d_SR_markAt_41 : decode prog_10_method_5_code 41 = .ok (.aload_n 0, 1) := by decide +kernel
theorem d_SR_markAt_42 : decode prog_10_method_5_code 42 = .ok (.getfield 72, 3) := by decide +kernel
theorem d_SR_markAt_45 : decode prog_10_method_5_code 45 = .ok (.iload_n 1, 1) := by decide +kernel
theorem d_SR_markAt_46 : decode prog_10_method_5_code 46 = .ok (.invokevirtual 123, 3) := by decide +kernel
theorem d_SR_markAt_49 : decode prog_10_method_5_code 49 = .ok (.sipush 255, 3) := by decide +kernel
theorem d_SR_markAt_52 : decode prog_10_method_5_code 52 = .ok (.if_icmp .ne 34, 3) := by decide +kernel
theorem d_SR_markAt_55 : decode prog_10_method_5_code 55 = .ok (.iload_n 2, 1) := by decide +kernel
theorem d_SR_markAt_56 : decode prog_10_method_5_code 56 = .ok (.invokestatic 126, 3) := by decide +kernel
theorem d_SR_markAt_59 : decode prog_10_method_5_code 59 = .ok (.ifCond .eq 27, 3) := by decide +kernel
theorem d_SR_markAt_62 : decode prog_10_method_5_code 62 = .ok (.iload_n 2, 1) := by decide +kernel
theorem d_SR_markAt_63 : decode prog_10_method_5_code 63 = .ok (.sipush 216, 3) := by decide +kernel
theorem d_SR_markAt_66 : decode prog_10_method_5_code 66 = .ok (.if_icmp .ne 7, 3) := by decide +kernel
theorem d_SR_markAt_69 : decode prog_10_method_5_code 69 = .ok (.iconst 1, 1) := by decide +kernel
theorem d_SR_markAt_70 : decode prog_10_method_5_code 70 = .ok (.goto 4, 3) := by decide +kernel
theorem d_SR_markAt_73 : decode prog_10_method_5_code 73 = .ok (.iconst 0, 1) := by decide +kernel
theorem d_SR_markAt_74 : decode prog_10_method_5_code 74 = .ok (.iload_n 1, 1) := by decide +kernel
theorem d_SR_markAt_75 : decode prog_10_method_5_code 75 = .ok (.ifCond .ne 7, 3) := by decide +kernel
theorem d_SR_markAt_78 : decode prog_10_method_5_code 78 = .ok (.iconst 1, 1) := by decide +kernel
theorem d_SR_markAt_79 : decode prog_10_method_5_code 79 = .ok (.goto 4, 3) := by decide +kernel
theorem d_SR_markAt_82 : decode prog_10_method_5_code 82 = .ok (.iconst 0, 1) := by decide +kernel
theorem d_SR_markAt_83 : decode prog_10_method_5_code 83 = .ok (.if_icmp .eq 15, 3) := by decide +kernel
theorem d_SR_markAt_86 : decode prog_10_method_5_code 86 = .ok (.aload_n 0, 1) := by decide +kernel
theorem d_SR_markAt_87 : decode prog_10_method_5_code 87 = .ok (.getfield 21, 3) := by decide +kernel
theorem d_SR_markAt_90 : decode prog_10_method_5_code 90 = .ok (.iconst 2, 1) := by decide +kernel
theorem d_SR_markAt_91 : decode prog_10_method_5_code 91 = .ok (.iload_n 1, 1) := by decide +kernel
theorem d_SR_markAt_92 : decode prog_10_method_5_code 92 = .ok (.invokevirtual 110, 3) := by decide +kernel
theorem d_SR_markAt_95 : decode prog_10_method_5_code 95 = .ok (.goto 20, 3) := by decide +kernel
theorem d_SR_markAt_98 : decode prog_10_method_5_code 98 = .ok (.aload_n 0, 1) := by decide +kernel
theorem d_SR_markAt_99 : decode prog_10_method_5_code 99 = .ok (.iload_n 2, 1) := by decide +kernel
theorem d_SR_markAt_100 : decode prog_10_method_5_code 100 = .ok (.invokevirtual 130, 3) := by decide +kernel
theorem d_SR_markAt_103 : decode prog_10_method_5_code 103 = .ok (.ifCond .eq 12, 3) := by decide +kernel
theorem d_SR_markAt_106 : decode prog_10_method_5_code 106 = .ok (.aload_n 0, 1) := by decide +kernel
theorem d_SR_markAt_107 : decode prog_10_method_5_code 107 = .ok (.getfield 21, 3) := by decide +kernel
theorem d_SR_markAt_110 : decode prog_10_method_5_code 110 = .ok (.iconst 5, 1) := by decide +kernel
theorem d_SR_markAt_111 : decode prog_10_method_5_code 111 = .ok (.iload_n 1, 1) := by decide +kernel
theorem d_SR_markAt_112 : decode prog_10_method_5_code 112 = .ok (.invokevirtual 110, 3) := by decide +kernel
theorem d_SR_markAt_115 : decode prog_10_method_5_code 115 = .ok (.iload_n 2, 1) := by decide +kernel
theorem d_SR_markAt_116 : decode prog_10_method_5_code 116 = .ok (.ireturn, 1) := by decide +kernel
def f_SR_markAt (k0 : Nat) (x1 : Int32) (σ : Mem) : Option (Int32 × Mem) :=
  if (2 : Int32) ≤ ((f_BY_size (wtg k0 0) σ) - x1) then
  lt (f_BY_get (wtg k0 0) (x1 + (1 : Int32)) σ) fun v2 =>
  lt (fun  (σ20 : Mem) => 
  lt (f_FA_meet (wtg k0 2) (2 : Int32) x1 σ20) fun σ23 =>
  some (v2, σ23)) fun K21 =>
  if (f_BY_get (wtg k0 0) x1 σ) = (255 : Int32) then
  if (f_SR_isKnown v2 σ) = 0 then
  K21 σ
  else
  if (if v2 = (216 : Int32) then (1 : Int32) else (0 : Int32)) = (if x1 = 0 then (1 : Int32) else (0 : Int32)) then
  (f_SR_isTooSoonOrLate k0 v2 σ).bind fun r31 =>
  if r31 = 0 then
  some (v2, σ)
  else
  lt (f_FA_meet (wtg k0 2) (5 : Int32) x1 σ) fun σ37 =>
  some (v2, σ37)
  else
  K21 σ
  else
  K21 σ
  else
  lt (f_FA_meet (wtg k0 2) (1 : Int32) (f_BY_size (wtg k0 0) σ) σ) fun σ38 =>
  some ((-1 : Int32), σ38)
set_option maxHeartbeats 4000000 in
set_option maxRecDepth 100000 in
theorem w_SR_markAt {F : Fx} (C : Ctx F prog_10_method_5_code 3 "LineFrames$StreamReader" (some .int) 3 64) {k0 : Nat} (h0k : Is k0 9) (x1 : Int32) (σ : Mem) : J F 3 (cvO cvIM) (f_SR_markAt k0 x1 σ) σ 0 [(0, .ref (fad F k0)), (1, .int x1)] [] := by
  unfold f_SR_markAt
  refine j_aload_n C d_SR_markAt_0 0 rfl ?_
  refine j_getR C h0k fl_SR_72 rfl d_SR_markAt_1 ?_
  refine j_callVi C mv_SR_117 [] [] (tg_9_0 _ h0k) (c_BY_size (tg_9_0 _ h0k) σ) rfl rfl (by decide) (Nat.le_of_ble_eq_true rfl) d_SR_markAt_4 ?_
  refine j_iload_n C d_SR_markAt_7 1 rfl ?_
  refine j_isub C d_SR_markAt_8 ?_
  refine j_iconst (v := (2 : Int32)) C d_SR_markAt_9 (by decide) ?_
  refine j_icmp_ge (tgt := 30) C d_SR_markAt_10 (by decide) (fun c1 => ?_) (fun c1 => ?_)
  · refine j_aload_n C d_SR_markAt_30 0 rfl ?_
    refine j_getR C h0k fl_SR_72 rfl d_SR_markAt_31 ?_
    refine j_iload_n C d_SR_markAt_34 1 rfl ?_
    refine j_iconst (v := (1 : Int32)) C d_SR_markAt_35 (by decide) ?_
    refine j_iadd C d_SR_markAt_36 ?_
    refine j_callVi C mv_SR_123 [.int (x1 + (1 : Int32))] [] (tg_9_0 _ h0k) (c_BY_get (tg_9_0 _ h0k) (x1 + (1 : Int32)) σ) rfl rfl (by decide) (Nat.le_of_ble_eq_true rfl) d_SR_markAt_37 ?_
    refine j_nm (fun v2 v2_e => ?_)
    refine j_istore_n (lv9 := [(0, .ref (fad F k0)), (1, .int x1), (2, .int v2)]) C d_SR_markAt_40 rfl rfl (by decide) ?_
    refine j_aload_n C d_SR_markAt_41 0 rfl ?_
    refine j_getR C h0k fl_SR_72 rfl d_SR_markAt_42 ?_
    refine j_iload_n C d_SR_markAt_45 1 rfl ?_
    refine j_callVi C mv_SR_123 [.int x1] [] (tg_9_0 _ h0k) (c_BY_get (tg_9_0 _ h0k) x1 σ) rfl rfl (by decide) (Nat.le_of_ble_eq_true rfl) d_SR_markAt_46 ?_
    refine j_sipush (v := (255 : Int32)) C d_SR_markAt_49 (by decide) ?_
    refine j_join0m 86 (fun _ => [(0, .ref (fad F k0)), (1, .int x1), (2, .int v2)]) (fun _ => []) (fun σ20 => ?_) (fun K21 H22 => ?_)
    · refine j_aload_n C d_SR_markAt_86 0 rfl ?_
      refine j_getR C h0k fl_SR_21 rfl d_SR_markAt_87 ?_
      refine j_iconst (v := (2 : Int32)) C d_SR_markAt_90 (by decide) ?_
      refine j_iload_n C d_SR_markAt_91 1 rfl ?_
      refine j_callVv C mv_SR_110 [.int (2 : Int32), .int x1] [] (tg_9_2 _ h0k) (c_FA_meet (tg_9_2 _ h0k) (2 : Int32) x1 σ20) rfl rfl (by decide) (Nat.le_of_ble_eq_true rfl) d_SR_markAt_92 ?_
      refine j_genM (fun σ23 => ?_)
      refine j_goto (tgt := 115) C d_SR_markAt_95 (by decide) ?_
      refine j_iload_n C d_SR_markAt_115 2 rfl ?_
      exact j_ireti C (fun ρ h => leaf_eq h) d_SR_markAt_116
    · refine j_icmp_ne (tgt := 86) C d_SR_markAt_52 (by decide) (fun c19 => ?_) (fun c19 => ?_)
      · exact H22 σ
      · refine j_iload_n C d_SR_markAt_55 2 rfl ?_
        refine j_callSi C ms_SR_126 [.int v2] [] (c_SR_isKnown v2 σ) rfl rfl (by decide) (Nat.le_of_ble_eq_true rfl) d_SR_markAt_56 ?_
        refine j_if_eq (tgt := 86) C d_SR_markAt_59 (by decide) (fun c24 => ?_) (fun c24 => ?_)
        · exact H22 σ
        · refine j_iload_n C d_SR_markAt_62 2 rfl ?_
          refine j_sipush (v := (216 : Int32)) C d_SR_markAt_63 (by decide) ?_
          refine d_icmp_ne (a := (1 : Int32)) (b := (0 : Int32)) (jp := 74) (tgt := 73) C d_SR_markAt_66 (by decide) (fun c25 k26 => ?_) (fun c25 k26 => ?_) ?_
          · refine j_iconst (v := (0 : Int32)) C d_SR_markAt_73 (by decide) ?_
            exact k26
          · refine j_iconst (v := (1 : Int32)) C d_SR_markAt_69 (by decide) ?_
            refine j_goto (tgt := 74) C d_SR_markAt_70 (by decide) ?_
            exact k26
          refine j_iload_n C d_SR_markAt_74 1 rfl ?_
          refine d_if_ne (a := (1 : Int32)) (b := (0 : Int32)) (jp := 83) (tgt := 82) C d_SR_markAt_75 (by decide) (fun c27 k28 => ?_) (fun c27 k28 => ?_) ?_
          · refine j_iconst (v := (0 : Int32)) C d_SR_markAt_82 (by decide) ?_
            exact k28
          · refine j_iconst (v := (1 : Int32)) C d_SR_markAt_78 (by decide) ?_
            refine j_goto (tgt := 83) C d_SR_markAt_79 (by decide) ?_
            exact k28
          refine j_icmp_eq (tgt := 98) C d_SR_markAt_83 (by decide) (fun c29 => ?_) (fun c29 => ?_)
          · refine j_aload_n C d_SR_markAt_98 0 rfl ?_
            refine j_iload_n C d_SR_markAt_99 2 rfl ?_
            refine j_bind rfl (fun r31 e30 => ?_)
            refine j_callVi C mv_SR_130 [.int v2] [] h0k (c_SR_isTooSoonOrLate h0k v2 σ e30) rfl rfl (by decide) (Nat.le_of_ble_eq_true rfl) d_SR_markAt_100 ?_
            refine j_if_eq (tgt := 115) C d_SR_markAt_103 (by decide) (fun c36 => ?_) (fun c36 => ?_)
            · refine j_iload_n C d_SR_markAt_115 2 rfl ?_
              exact j_ireti C (fun ρ h => leaf_eq h) d_SR_markAt_116
            · refine j_aload_n C d_SR_markAt_106 0 rfl ?_
              refine j_getR C h0k fl_SR_21 rfl d_SR_markAt_107 ?_
              refine j_iconst (v := (5 : Int32)) C d_SR_markAt_110 (by decide) ?_
              refine j_iload_n C d_SR_markAt_111 1 rfl ?_
              refine j_callVv C mv_SR_110 [.int (5 : Int32), .int x1] [] (tg_9_2 _ h0k) (c_FA_meet (tg_9_2 _ h0k) (5 : Int32) x1 σ) rfl rfl (by decide) (Nat.le_of_ble_eq_true rfl) d_SR_markAt_112 ?_
              refine j_genM (fun σ37 => ?_)
              refine j_iload_n C d_SR_markAt_115 2 rfl ?_
              exact j_ireti C (fun ρ h => leaf_eq h) d_SR_markAt_116
          · exact H22 σ
  · refine j_aload_n C d_SR_markAt_13 0 rfl ?_
    refine j_getR C h0k fl_SR_21 rfl d_SR_markAt_14 ?_
    refine j_iconst (v := (1 : Int32)) C d_SR_markAt_17 (by decide) ?_
    refine j_aload_n C d_SR_markAt_18 0 rfl ?_
    refine j_getR C h0k fl_SR_72 rfl d_SR_markAt_19 ?_
    refine j_callVi C mv_SR_117 [] [.int (1 : Int32), .ref (fad F (wtg k0 2))] (tg_9_0 _ h0k) (c_BY_size (tg_9_0 _ h0k) σ) rfl rfl (by decide) (Nat.le_of_ble_eq_true rfl) d_SR_markAt_22 ?_
    refine j_callVv C mv_SR_110 [.int (1 : Int32), .int (f_BY_size (wtg k0 0) σ)] [] (tg_9_2 _ h0k) (c_FA_meet (tg_9_2 _ h0k) (1 : Int32) (f_BY_size (wtg k0 0) σ) σ) rfl rfl (by decide) (Nat.le_of_ble_eq_true rfl) d_SR_markAt_25 ?_
    refine j_genM (fun σ38 => ?_)
    refine j_iconst (v := (-1 : Int32)) C d_SR_markAt_28 (by decide) ?_
    exact j_ireti C (fun ρ h => leaf_eq h) d_SR_markAt_29
theorem c_SR_markAt {l : Launch} {D : va_G} {G : GC} {ad : Nat → Nat} {k0 : Nat} (h0k : Is k0 9) (x1 : Int32) (σ : Mem) {q : Int32 × Mem} (hq : f_SR_markAt k0 x1 σ = some q) : Ctr l D G ad ⟨"LineFrames$StreamReader", "markAt", "(I)I"⟩ prog_10_method_5_code 3 (some .int) 3 64 [.ref (ad k0), .int x1] σ (.inl (some (.int q.1)), q.2) := ctr_J (cv := (cvO cvIM)) (E := f_SR_markAt k0 x1 σ) (by decide +kernel) (Nat.le_of_ble_eq_true rfl) (by rw [hq]; rfl) (fun F h C => by subst h; exact w_SR_markAt C h0k x1 σ)
/-! LineFrames$Bytes has (I)Z -/
theorem d_BY_has_0 : decode prog_4_method_4_code 0 = .ok (.iload_n 1, 1) := by decide +kernel
theorem d_BY_has_1 : decode prog_4_method_4_code 1 = .ok (.ifCond .lt 15, 3) := by decide +kernel
theorem d_BY_has_4 : decode prog_4_method_4_code 4 = .ok (.iload_n 1, 1) := by decide +kernel
theorem d_BY_has_5 : decode prog_4_method_4_code 5 = .ok (.aload_n 0, 1) := by decide +kernel
theorem d_BY_has_6 : decode prog_4_method_4_code 6 = .ok (.getfield 15, 3) := by decide +kernel
theorem d_BY_has_9 : decode prog_4_method_4_code 9 = .ok (.if_icmp .ge 7, 3) := by decide +kernel
theorem d_BY_has_12 : decode prog_4_method_4_code 12 = .ok (.iconst 1, 1) := by decide +kernel
theorem d_BY_has_13 : decode prog_4_method_4_code 13 = .ok (.goto 4, 3) := by decide +kernel
theorem d_BY_has_16 : decode prog_4_method_4_code 16 = .ok (.iconst 0, 1) := by decide +kernel
theorem d_BY_has_17 : decode prog_4_method_4_code 17 = .ok (.ireturn, 1) := by decide +kernel
def f_BY_has (k0 : Nat) (x1 : Int32) (σ : Mem) : Int32 :=
  (if x1 < 0 then (0 : Int32) else (if (σ k0 1) ≤ x1 then (0 : Int32) else (1 : Int32)))
set_option maxHeartbeats 4000000 in
set_option maxRecDepth 100000 in
theorem w_BY_has {F : Fx} (C : Ctx F prog_4_method_4_code 2 "LineFrames$Bytes" (some .boolean) 0 0) {k0 : Nat} (h0k : Is k0 3) (x1 : Int32) (σ : Mem) : J F 2 (cvI σ) (f_BY_has k0 x1 σ) σ 0 [(0, .ref (fad F k0)), (1, .int x1)] [] := by
  unfold f_BY_has
  refine j_iload_n C d_BY_has_0 1 rfl ?_
  refine d_if_lt (a := (0 : Int32)) (b := (if (σ k0 1) ≤ x1 then (0 : Int32) else (1 : Int32))) (jp := 17) (tgt := 16) C d_BY_has_1 (by decide) (fun c3 k4 => ?_) (fun c3 k4 => ?_) ?_
  · refine j_iconst (v := (0 : Int32)) C d_BY_has_16 (by decide) ?_
    exact k4
  · refine j_iload_n C d_BY_has_4 1 rfl ?_
    refine j_aload_n C d_BY_has_5 0 rfl ?_
    refine j_getI C h0k fl_BY_15 rfl d_BY_has_6 ?_
    refine d_icmp_ge (a := (0 : Int32)) (b := (1 : Int32)) (jp := 17) (tgt := 16) C d_BY_has_9 (by decide) (fun c5 k6 => ?_) (fun c5 k6 => ?_) ?_
    · refine j_iconst (v := (0 : Int32)) C d_BY_has_16 (by decide) ?_
      exact k6
    · refine j_iconst (v := (1 : Int32)) C d_BY_has_12 (by decide) ?_
      refine j_goto (tgt := 17) C d_BY_has_13 (by decide) ?_
      exact k6
    exact k4
  exact j_iretz C (fun ρ h => leaf_eq h) (nz01 (ite01 (Or.inl rfl) (ite01 (Or.inl rfl) (Or.inr rfl)))) d_BY_has_17
theorem c_BY_has {l : Launch} {D : va_G} {G : GC} {ad : Nat → Nat} {k0 : Nat} (h0k : Is k0 3) (x1 : Int32) (σ : Mem) : Ctr l D G ad ⟨"LineFrames$Bytes", "has", "(I)Z"⟩ prog_4_method_4_code 2 (some .boolean) 0 0 [.ref (ad k0), .int x1] σ (.inl (some (.int (f_BY_has k0 x1 σ))), σ) := ctr_J (cv := (cvI σ)) (E := f_BY_has k0 x1 σ) (by decide +kernel) (Nat.le_of_ble_eq_true rfl) rfl (fun F h C => by subst h; exact w_BY_has C h0k x1 σ)
theorem z_BY_has (k0 : Nat) (x1 : Int32) (σ : Mem) : f_BY_has k0 x1 σ = 0 ∨ f_BY_has k0 x1 σ = 1 := by
  unfold f_BY_has
  try simp only [lt]
  repeat' split
  all_goals first | exact Or.inl rfl | exact Or.inr rfl
/-! LineFrames$StreamReader end ()V -/
theorem d_SR_end_0 : decode prog_10_method_10_code 0 = .ok (.aload_n 0, 1) := by decide +kernel
theorem d_SR_end_1 : decode prog_10_method_10_code 1 = .ok (.getfield 72, 3) := by decide +kernel
theorem d_SR_end_4 : decode prog_10_method_10_code 4 = .ok (.aload_n 0, 1) := by decide +kernel
theorem d_SR_end_5 : decode prog_10_method_10_code 5 = .ok (.getfield 46, 3) := by decide +kernel
theorem d_SR_end_8 : decode prog_10_method_10_code 8 = .ok (.invokevirtual 143, 3) := by decide +kernel
theorem d_SR_end_11 : decode prog_10_method_10_code 11 = .ok (.ifCond .eq 19, 3) := by decide +kernel
theorem d_SR_end_14 : decode prog_10_method_10_code 14 = .ok (.aload_n 0, 1) := by decide +kernel
theorem d_SR_end_15 : decode prog_10_method_10_code 15 = .ok (.getfield 21, 3) := by decide +kernel
theorem d_SR_end_18 : decode prog_10_method_10_code 18 = .ok (.bipush 9, 2) := by decide +kernel
theorem d_SR_end_20 : decode prog_10_method_10_code 20 = .ok (.aload_n 0, 1) := by decide +kernel
theorem d_SR_end_21 : decode prog_10_method_10_code 21 = .ok (.getfield 46, 3) := by decide +kernel
theorem d_SR_end_24 : decode prog_10_method_10_code 24 = .ok (.invokevirtual 110, 3) := by decide +kernel
theorem d_SR_end_27 : decode prog_10_method_10_code 27 = .ok (.goto 8, 3) := by decide +kernel
theorem d_SR_end_30 : decode prog_10_method_10_code 30 = .ok (.aload_n 0, 1) := by decide +kernel
theorem d_SR_end_31 : decode prog_10_method_10_code 31 = .ok (.iconst 1, 1) := by decide +kernel
theorem d_SR_end_32 : decode prog_10_method_10_code 32 = .ok (.putfield 50, 3) := by decide +kernel
theorem d_SR_end_35 : decode prog_10_method_10_code 35 = .ok (.return_, 1) := by decide +kernel
def f_SR_end (k0 : Nat) (σ : Mem) : Mem :=
  if (f_BY_has (wtg k0 0) (σ k0 6) σ) = 0 then
  lt (mput σ k0 7 (1 : Int32)) fun σ4 =>
  σ4
  else
  lt (f_FA_meet (wtg k0 2) (9 : Int32) (σ k0 6) σ) fun σ5 =>
  σ5
set_option maxHeartbeats 4000000 in
set_option maxRecDepth 100000 in
theorem w_SR_end {F : Fx} (C : Ctx F prog_10_method_10_code 1 "LineFrames$StreamReader" none 1 22) {k0 : Nat} (h0k : Is k0 9) (σ : Mem) : J F 1 cvM (f_SR_end k0 σ) σ 0 [(0, .ref (fad F k0))] [] := by
  unfold f_SR_end
  refine j_aload_n C d_SR_end_0 0 rfl ?_
  refine j_getR C h0k fl_SR_72 rfl d_SR_end_1 ?_
  refine j_aload_n C d_SR_end_4 0 rfl ?_
  refine j_getI C h0k fl_SR_46 rfl d_SR_end_5 ?_
  refine j_callVi C mv_SR_143 [.int (σ k0 6)] [] (tg_9_0 _ h0k) (c_BY_has (tg_9_0 _ h0k) (σ k0 6) σ) rfl rfl (by decide) (Nat.le_of_ble_eq_true rfl) d_SR_end_8 ?_
  refine j_if_eq (tgt := 30) C d_SR_end_11 (by decide) (fun c3 => ?_) (fun c3 => ?_)
  · refine j_aload_n C d_SR_end_30 0 rfl ?_
    refine j_iconst (v := (1 : Int32)) C d_SR_end_31 (by decide) ?_
    refine j_put C h0k fl_SR_50 fw_9_7 rfl (nz01 (Or.inr rfl)) rfl d_SR_end_32 (fun σ4 => ?_)
    exact j_vret C (fun ρ h => leaf_eq h) d_SR_end_35
  · refine j_aload_n C d_SR_end_14 0 rfl ?_
    refine j_getR C h0k fl_SR_21 rfl d_SR_end_15 ?_
    refine j_bipush (v := (9 : Int32)) C d_SR_end_18 (by decide) ?_
    refine j_aload_n C d_SR_end_20 0 rfl ?_
    refine j_getI C h0k fl_SR_46 rfl d_SR_end_21 ?_
    refine j_callVv C mv_SR_110 [.int (9 : Int32), .int (σ k0 6)] [] (tg_9_2 _ h0k) (c_FA_meet (tg_9_2 _ h0k) (9 : Int32) (σ k0 6) σ) rfl rfl (by decide) (Nat.le_of_ble_eq_true rfl) d_SR_end_24 ?_
    refine j_genM (fun σ5 => ?_)
    refine j_goto (tgt := 35) C d_SR_end_27 (by decide) ?_
    exact j_vret C (fun ρ h => leaf_eq h) d_SR_end_35
theorem c_SR_end {l : Launch} {D : va_G} {G : GC} {ad : Nat → Nat} {k0 : Nat} (h0k : Is k0 9) (σ : Mem) : Ctr l D G ad ⟨"LineFrames$StreamReader", "end", "()V"⟩ prog_10_method_10_code 1 none 1 22 [.ref (ad k0)] σ (.inl none, (f_SR_end k0 σ)) := ctr_J (cv := cvM) (E := f_SR_end k0 σ) (by decide +kernel) (Nat.le_of_ble_eq_true rfl) rfl (fun F h C => by subst h; exact w_SR_end C h0k σ)
/-! LineFrames$Bytes wide (I)I -/
theorem d_BY_wide_0 : decode prog_4_method_6_code 0 = .ok (.aload_n 0, 1) := by decide +kernel
theorem d_BY_wide_1 : decode prog_4_method_6_code 1 = .ok (.iload_n 1, 1) := by decide +kernel
theorem d_BY_wide_2 : decode prog_4_method_6_code 2 = .ok (.invokevirtual 19, 3) := by decide +kernel
theorem d_BY_wide_5 : decode prog_4_method_6_code 5 = .ok (.sipush 256, 3) := by decide +kernel
theorem d_BY_wide_8 : decode prog_4_method_6_code 8 = .ok (.imul, 1) := by decide +kernel
theorem d_BY_wide_9 : decode prog_4_method_6_code 9 = .ok (.aload_n 0, 1) := by decide +kernel
theorem d_BY_wide_10 : decode prog_4_method_6_code 10 = .ok (.iload_n 1, 1) := by decide +kernel
theorem d_BY_wide_11 : decode prog_4_method_6_code 11 = .ok (.iconst 1, 1) := by decide +kernel
theorem d_BY_wide_12 : decode prog_4_method_6_code 12 = .ok (.iadd, 1) := by decide +kernel
theorem d_BY_wide_13 : decode prog_4_method_6_code 13 = .ok (.invokevirtual 19, 3) := by decide +kernel
theorem d_BY_wide_16 : decode prog_4_method_6_code 16 = .ok (.iadd, 1) := by decide +kernel
theorem d_BY_wide_17 : decode prog_4_method_6_code 17 = .ok (.ireturn, 1) := by decide +kernel
def f_BY_wide (k0 : Nat) (x1 : Int32) (σ : Mem) : Int32 :=
  (((f_BY_get k0 x1 σ) * (256 : Int32)) + (f_BY_get k0 (x1 + (1 : Int32)) σ))
set_option maxHeartbeats 4000000 in
set_option maxRecDepth 100000 in
theorem w_BY_wide {F : Fx} (C : Ctx F prog_4_method_6_code 2 "LineFrames$Bytes" (some .int) 1 21) {k0 : Nat} (h0k : Is k0 3) (x1 : Int32) (σ : Mem) : J F 2 (cvI σ) (f_BY_wide k0 x1 σ) σ 0 [(0, .ref (fad F k0)), (1, .int x1)] [] := by
  unfold f_BY_wide
  refine j_aload_n C d_BY_wide_0 0 rfl ?_
  refine j_iload_n C d_BY_wide_1 1 rfl ?_
  refine j_callVi C mv_BY_19 [.int x1] [] h0k (c_BY_get h0k x1 σ) rfl rfl (by decide) (Nat.le_of_ble_eq_true rfl) d_BY_wide_2 ?_
  refine j_sipush (v := (256 : Int32)) C d_BY_wide_5 (by decide) ?_
  refine j_imul C d_BY_wide_8 ?_
  refine j_aload_n C d_BY_wide_9 0 rfl ?_
  refine j_iload_n C d_BY_wide_10 1 rfl ?_
  refine j_iconst (v := (1 : Int32)) C d_BY_wide_11 (by decide) ?_
  refine j_iadd C d_BY_wide_12 ?_
  refine j_callVi C mv_BY_19 [.int (x1 + (1 : Int32))] [.int ((f_BY_get k0 x1 σ) * (256 : Int32))] h0k (c_BY_get h0k (x1 + (1 : Int32)) σ) rfl rfl (by decide) (Nat.le_of_ble_eq_true rfl) d_BY_wide_13 ?_
  refine j_iadd C d_BY_wide_16 ?_
  exact j_ireti C (fun ρ h => leaf_eq h) d_BY_wide_17
theorem c_BY_wide {l : Launch} {D : va_G} {G : GC} {ad : Nat → Nat} {k0 : Nat} (h0k : Is k0 3) (x1 : Int32) (σ : Mem) : Ctr l D G ad ⟨"LineFrames$Bytes", "wide", "(I)I"⟩ prog_4_method_6_code 2 (some .int) 1 21 [.ref (ad k0), .int x1] σ (.inl (some (.int (f_BY_wide k0 x1 σ))), σ) := ctr_J (cv := (cvI σ)) (E := f_BY_wide k0 x1 σ) (by decide +kernel) (Nat.le_of_ble_eq_true rfl) rfl (fun F h C => by subst h; exact w_BY_wide C h0k x1 σ)
/-! LineFrames$StreamReader lengthAt (I)I -/
theorem d_SR_lengthAt_0 : decode prog_10_method_11_code 0 = .ok (.aload_n 0, 1) := by decide +kernel
theorem d_SR_lengthAt_1 : decode prog_10_method_11_code 1 = .ok (.getfield 72, 3) := by decide +kernel
theorem d_SR_lengthAt_4 : decode prog_10_method_11_code 4 = .ok (.iload_n 1, 1) := by decide +kernel
theorem d_SR_lengthAt_5 : decode prog_10_method_11_code 5 = .ok (.iconst 2, 1) := by decide +kernel
theorem d_SR_lengthAt_6 : decode prog_10_method_11_code 6 = .ok (.iadd, 1) := by decide +kernel
theorem d_SR_lengthAt_7 : decode prog_10_method_11_code 7 = .ok (.invokevirtual 146, 3) := by decide +kernel
theorem d_SR_lengthAt_10 : decode prog_10_method_11_code 10 = .ok (.istore_n 2, 1) := by decide +kernel
theorem d_SR_lengthAt_11 : decode prog_10_method_11_code 11 = .ok (.aload_n 0, 1) := by decide +kernel
theorem d_SR_lengthAt_12 : decode prog_10_method_11_code 12 = .ok (.getfield 72, 3) := by decide +kernel
theorem d_SR_lengthAt_15 : decode prog_10_method_11_code 15 = .ok (.invokevirtual 117, 3) := by decide +kernel
theorem d_SR_lengthAt_18 : decode prog_10_method_11_code 18 = .ok (.iload_n 1, 1) := by decide +kernel
theorem d_SR_lengthAt_19 : decode prog_10_method_11_code 19 = .ok (.isub, 1) := by decide +kernel
theorem d_SR_lengthAt_20 : decode prog_10_method_11_code 20 = .ok (.iconst 4, 1) := by decide +kernel
theorem d_SR_lengthAt_21 : decode prog_10_method_11_code 21 = .ok (.if_icmp .ge 21, 3) := by decide +kernel
theorem d_SR_lengthAt_24 : decode prog_10_method_11_code 24 = .ok (.aload_n 0, 1) := by decide +kernel
theorem d_SR_lengthAt_25 : decode prog_10_method_11_code 25 = .ok (.getfield 21, 3) := by decide +kernel
theorem d_SR_lengthAt_28 : decode prog_10_method_11_code 28 = .ok (.iconst 1, 1) := by decide +kernel
theorem d_SR_lengthAt_29 : decode prog_10_method_11_code 29 = .ok (.aload_n 0, 1) := by decide +kernel
theorem d_SR_lengthAt_30 : decode prog_10_method_11_code 30 = .ok (.getfield 72, 3) := by decide +kernel
theorem d_SR_lengthAt_33 : decode prog_10_method_11_code 33 = .ok (.invokevirtual 117, 3) := by decide +kernel
theorem d_SR_lengthAt_36 : decode prog_10_method_11_code 36 = .ok (.invokevirtual 110, 3) := by decide +kernel
theorem d_SR_lengthAt_39 : decode prog_10_method_11_code 39 = .ok (.goto 50, 3) := by decide +kernel
theorem d_SR_lengthAt_42 : decode prog_10_method_11_code 42 = .ok (.iload_n 2, 1) := by decide +kernel
theorem d_SR_lengthAt_43 : decode prog_10_method_11_code 43 = .ok (.iconst 2, 1) := by decide +kernel
theorem d_SR_lengthAt_44 : decode prog_10_method_11_code 44 = .ok (.if_icmp .ge 15, 3) := by decide +kernel
theorem d_SR_lengthAt_47 : decode prog_10_method_11_code 47 = .ok (.aload_n 0, 1) := by decide +kernel
theorem d_SR_lengthAt_48 : decode prog_10_method_11_code 48 = .ok (.getfield 21, 3) := by decide +kernel
theorem d_SR_lengthAt_51 : decode prog_10_method_11_code 51 = .ok (.iconst 3, 1) := by decide +kernel
theorem d_SR_lengthAt_52 : decode prog_10_method_11_code 52 = .ok (.iload_n 1, 1) := by decide +kernel
theorem d_SR_lengthAt_53 : decode prog_10_method_11_code 53 = .ok (.invokevirtual 110, 3) := by decide +kernel
theorem d_SR_lengthAt_56 : decode prog_10_method_11_code 56 = .ok (.goto 33, 3) := by decide +kernel
theorem d_SR_lengthAt_59 : decode prog_10_method_11_code 59 = .ok (.aload_n 0, 1) := by decide +kernel
theorem d_SR_lengthAt_60 : decode prog_10_method_11_code 60 = .ok (.getfield 72, 3) := by decide +kernel
theorem d_SR_lengthAt_63 : decode prog_10_method_11_code 63 = .ok (.invokevirtual 117, 3) := by decide +kernel
theorem d_SR_lengthAt_66 : decode prog_10_method_11_code 66 = .ok (.iload_n 1, 1) := by decide +kernel
theorem d_SR_lengthAt_67 : decode prog_10_method_11_code 67 = .ok (.isub, 1) := by decide +kernel
theorem d_SR_lengthAt_68 : decode prog_10_method_11_code 68 = .ok (.iconst 2, 1) := by decide +kernel
theorem d_SR_lengthAt_69 : decode prog_10_method_11_code 69 = .ok (.isub, 1) := by decide +kernel
theorem d_SR_lengthAt_70 : decode prog_10_method_11_code 70 = .ok (.iload_n 2, 1) := by decide +kernel
theorem d_SR_lengthAt_71 : decode prog_10_method_11_code 71 = .ok (.if_icmp .ge 18, 3) := by decide +kernel
theorem d_SR_lengthAt_74 : decode prog_10_method_11_code 74 = .ok (.aload_n 0, 1) := by decide +kernel
theorem d_SR_lengthAt_75 : decode prog_10_method_11_code 75 = .ok (.getfield 21, 3) := by decide +kernel
theorem d_SR_lengthAt_78 : decode prog_10_method_11_code 78 = .ok (.iconst 1, 1) := by decide +kernel
theorem d_SR_lengthAt_79 : decode prog_10_method_11_code 79 = .ok (.aload_n 0, 1) := by decide +kernel
theorem d_SR_lengthAt_80 : decode prog_10_method_11_code 80 = .ok (.getfield 72, 3) := by decide +kernel
theorem d_SR_lengthAt_83 : decode prog_10_method_11_code 83 = .ok (.invokevirtual 117, 3) := by decide +kernel
theorem d_SR_lengthAt_86 : decode prog_10_method_11_code 86 = .ok (.invokevirtual 110, 3) := by decide +kernel
theorem d_SR_lengthAt_89 : decode prog_10_method_11_code 89 = .ok (.iload_n 2, 1) := by decide +kernel
theorem d_SR_lengthAt_90 : decode prog_10_method_11_code 90 = .ok (.ireturn, 1) := by decide +kernel
def f_SR_lengthAt (k0 : Nat) (x1 : Int32) (σ : Mem) : Int32 × Mem :=
  lt (f_BY_wide (wtg k0 0) (x1 + (2 : Int32)) σ) fun v1 =>
  if (4 : Int32) ≤ ((f_BY_size (wtg k0 0) σ) - x1) then
  if (2 : Int32) ≤ v1 then
  if v1 ≤ (((f_BY_size (wtg k0 0) σ) - x1) - (2 : Int32)) then
  (v1, σ)
  else
  lt (f_FA_meet (wtg k0 2) (1 : Int32) (f_BY_size (wtg k0 0) σ) σ) fun σ29 =>
  (v1, σ29)
  else
  lt (f_FA_meet (wtg k0 2) (3 : Int32) x1 σ) fun σ30 =>
  (v1, σ30)
  else
  lt (f_FA_meet (wtg k0 2) (1 : Int32) (f_BY_size (wtg k0 0) σ) σ) fun σ31 =>
  (v1, σ31)
set_option maxHeartbeats 4000000 in
set_option maxRecDepth 100000 in
theorem w_SR_lengthAt {F : Fx} (C : Ctx F prog_10_method_11_code 3 "LineFrames$StreamReader" (some .int) 2 42) {k0 : Nat} (h0k : Is k0 9) (x1 : Int32) (σ : Mem) : J F 3 cvIM (f_SR_lengthAt k0 x1 σ) σ 0 [(0, .ref (fad F k0)), (1, .int x1)] [] := by
  unfold f_SR_lengthAt
  refine j_aload_n C d_SR_lengthAt_0 0 rfl ?_
  refine j_getR C h0k fl_SR_72 rfl d_SR_lengthAt_1 ?_
  refine j_iload_n C d_SR_lengthAt_4 1 rfl ?_
  refine j_iconst (v := (2 : Int32)) C d_SR_lengthAt_5 (by decide) ?_
  refine j_iadd C d_SR_lengthAt_6 ?_
  refine j_callVi C mv_SR_146 [.int (x1 + (2 : Int32))] [] (tg_9_0 _ h0k) (c_BY_wide (tg_9_0 _ h0k) (x1 + (2 : Int32)) σ) rfl rfl (by decide) (Nat.le_of_ble_eq_true rfl) d_SR_lengthAt_7 ?_
  refine j_nm (fun v1 v1_e => ?_)
  refine j_istore_n (lv9 := [(0, .ref (fad F k0)), (1, .int x1), (2, .int v1)]) C d_SR_lengthAt_10 rfl rfl (by decide) ?_
  refine j_aload_n C d_SR_lengthAt_11 0 rfl ?_
  refine j_getR C h0k fl_SR_72 rfl d_SR_lengthAt_12 ?_
  refine j_callVi C mv_SR_117 [] [] (tg_9_0 _ h0k) (c_BY_size (tg_9_0 _ h0k) σ) rfl rfl (by decide) (Nat.le_of_ble_eq_true rfl) d_SR_lengthAt_15 ?_
  refine j_iload_n C d_SR_lengthAt_18 1 rfl ?_
  refine j_isub C d_SR_lengthAt_19 ?_
  refine j_iconst (v := (4 : Int32)) C d_SR_lengthAt_20 (by decide) ?_
  refine j_icmp_ge (tgt := 42) C d_SR_lengthAt_21 (by decide) (fun c14 => ?_) (fun c14 => ?_)
  · refine j_iload_n C d_SR_lengthAt_42 2 rfl ?_
    refine j_iconst (v := (2 : Int32)) C d_SR_lengthAt_43 (by decide) ?_
    refine j_icmp_ge (tgt := 59) C d_SR_lengthAt_44 (by decide) (fun c23 => ?_) (fun c23 => ?_)
    · refine j_aload_n C d_SR_lengthAt_59 0 rfl ?_
      refine j_getR C h0k fl_SR_72 rfl d_SR_lengthAt_60 ?_
      refine j_callVi C mv_SR_117 [] [] (tg_9_0 _ h0k) (c_BY_size (tg_9_0 _ h0k) σ) rfl rfl (by decide) (Nat.le_of_ble_eq_true rfl) d_SR_lengthAt_63 ?_
      refine j_iload_n C d_SR_lengthAt_66 1 rfl ?_
      refine j_isub C d_SR_lengthAt_67 ?_
      refine j_iconst (v := (2 : Int32)) C d_SR_lengthAt_68 (by decide) ?_
      refine j_isub C d_SR_lengthAt_69 ?_
      refine j_iload_n C d_SR_lengthAt_70 2 rfl ?_
      refine j_icmp_ge (tgt := 89) C d_SR_lengthAt_71 (by decide) (fun c28 => ?_) (fun c28 => ?_)
      · refine j_iload_n C d_SR_lengthAt_89 2 rfl ?_
        exact j_ireti C (fun ρ h => leaf_eq h) d_SR_lengthAt_90
      · refine j_aload_n C d_SR_lengthAt_74 0 rfl ?_
        refine j_getR C h0k fl_SR_21 rfl d_SR_lengthAt_75 ?_
        refine j_iconst (v := (1 : Int32)) C d_SR_lengthAt_78 (by decide) ?_
        refine j_aload_n C d_SR_lengthAt_79 0 rfl ?_
        refine j_getR C h0k fl_SR_72 rfl d_SR_lengthAt_80 ?_
        refine j_callVi C mv_SR_117 [] [.int (1 : Int32), .ref (fad F (wtg k0 2))] (tg_9_0 _ h0k) (c_BY_size (tg_9_0 _ h0k) σ) rfl rfl (by decide) (Nat.le_of_ble_eq_true rfl) d_SR_lengthAt_83 ?_
        refine j_callVv C mv_SR_110 [.int (1 : Int32), .int (f_BY_size (wtg k0 0) σ)] [] (tg_9_2 _ h0k) (c_FA_meet (tg_9_2 _ h0k) (1 : Int32) (f_BY_size (wtg k0 0) σ) σ) rfl rfl (by decide) (Nat.le_of_ble_eq_true rfl) d_SR_lengthAt_86 ?_
        refine j_genM (fun σ29 => ?_)
        refine j_iload_n C d_SR_lengthAt_89 2 rfl ?_
        exact j_ireti C (fun ρ h => leaf_eq h) d_SR_lengthAt_90
    · refine j_aload_n C d_SR_lengthAt_47 0 rfl ?_
      refine j_getR C h0k fl_SR_21 rfl d_SR_lengthAt_48 ?_
      refine j_iconst (v := (3 : Int32)) C d_SR_lengthAt_51 (by decide) ?_
      refine j_iload_n C d_SR_lengthAt_52 1 rfl ?_
      refine j_callVv C mv_SR_110 [.int (3 : Int32), .int x1] [] (tg_9_2 _ h0k) (c_FA_meet (tg_9_2 _ h0k) (3 : Int32) x1 σ) rfl rfl (by decide) (Nat.le_of_ble_eq_true rfl) d_SR_lengthAt_53 ?_
      refine j_genM (fun σ30 => ?_)
      refine j_goto (tgt := 89) C d_SR_lengthAt_56 (by decide) ?_
      refine j_iload_n C d_SR_lengthAt_89 2 rfl ?_
      exact j_ireti C (fun ρ h => leaf_eq h) d_SR_lengthAt_90
  · refine j_aload_n C d_SR_lengthAt_24 0 rfl ?_
    refine j_getR C h0k fl_SR_21 rfl d_SR_lengthAt_25 ?_
    refine j_iconst (v := (1 : Int32)) C d_SR_lengthAt_28 (by decide) ?_
    refine j_aload_n C d_SR_lengthAt_29 0 rfl ?_
    refine j_getR C h0k fl_SR_72 rfl d_SR_lengthAt_30 ?_
    refine j_callVi C mv_SR_117 [] [.int (1 : Int32), .ref (fad F (wtg k0 2))] (tg_9_0 _ h0k) (c_BY_size (tg_9_0 _ h0k) σ) rfl rfl (by decide) (Nat.le_of_ble_eq_true rfl) d_SR_lengthAt_33 ?_
    refine j_callVv C mv_SR_110 [.int (1 : Int32), .int (f_BY_size (wtg k0 0) σ)] [] (tg_9_2 _ h0k) (c_FA_meet (tg_9_2 _ h0k) (1 : Int32) (f_BY_size (wtg k0 0) σ) σ) rfl rfl (by decide) (Nat.le_of_ble_eq_true rfl) d_SR_lengthAt_36 ?_
    refine j_genM (fun σ31 => ?_)
    refine j_goto (tgt := 89) C d_SR_lengthAt_39 (by decide) ?_
    refine j_iload_n C d_SR_lengthAt_89 2 rfl ?_
    exact j_ireti C (fun ρ h => leaf_eq h) d_SR_lengthAt_90
theorem c_SR_lengthAt {l : Launch} {D : va_G} {G : GC} {ad : Nat → Nat} {k0 : Nat} (h0k : Is k0 9) (x1 : Int32) (σ : Mem) : Ctr l D G ad ⟨"LineFrames$StreamReader", "lengthAt", "(I)I"⟩ prog_10_method_11_code 3 (some .int) 2 42 [.ref (ad k0), .int x1] σ (.inl (some (.int (f_SR_lengthAt k0 x1 σ).1)), (f_SR_lengthAt k0 x1 σ).2) := ctr_J (cv := cvIM) (E := f_SR_lengthAt k0 x1 σ) (by decide +kernel) (Nat.le_of_ble_eq_true rfl) rfl (fun F h C => by subst h; exact w_SR_lengthAt C h0k x1 σ)
end
section
/-! LineFrames$Picture mayMeasure (IIII)Z -/
theorem d_PI_mayMeasure_0 : decode prog_8_method_2_code 0 = .ok (.iload_n 0, 1) := by decide +kernel
theorem d_PI_mayMeasure_1 : decode prog_8_method_2_code 1 = .ok (.iconst 1, 1) := by decide +kernel
theorem d_PI_mayMeasure_2 : decode prog_8_method_2_code 2 = .ok (.if_icmp .lt 45, 3) := by decide +kernel
theorem d_PI_mayMeasure_5 : decode prog_8_method_2_code 5 = .ok (.iload_n 0, 1) := by decide +kernel
theorem d_PI_mayMeasure_6 : decode prog_8_method_2_code 6 = .ok (.bipush 12, 2) := by decide +kernel
theorem d_PI_mayMeasure_8 : decode prog_8_method_2_code 8 = .ok (.if_icmp .gt 39, 3) := by decide +kernel
theorem d_PI_mayMeasure_11 : decode prog_8_method_2_code 11 = .ok (.iload_n 1, 1) := by decide +kernel
theorem d_PI_mayMeasure_12 : decode prog_8_method_2_code 12 = .ok (.iconst 1, 1) := by decide +kernel
theorem d_PI_mayMeasure_13 : decode prog_8_method_2_code 13 = .ok (.if_icmp .lt 34, 3) := by decide +kernel
theorem d_PI_mayMeasure_16 : decode prog_8_method_2_code 16 = .ok (.iload_n 1, 1) := by decide +kernel
theorem d_PI_mayMeasure_17 : decode prog_8_method_2_code 17 = .ok (.bipush 12, 2) := by decide +kernel
theorem d_PI_mayMeasure_19 : decode prog_8_method_2_code 19 = .ok (.if_icmp .gt 28, 3) := by decide +kernel
theorem d_PI_mayMeasure_22 : decode prog_8_method_2_code 22 = .ok (.iload_n 2, 1) := by decide +kernel
theorem d_PI_mayMeasure_23 : decode prog_8_method_2_code 23 = .ok (.iconst 2, 1) := by decide +kernel
theorem d_PI_mayMeasure_24 : decode prog_8_method_2_code 24 = .ok (.if_icmp .lt 23, 3) := by decide +kernel
theorem d_PI_mayMeasure_27 : decode prog_8_method_2_code 27 = .ok (.iload_n 2, 1) := by decide +kernel
theorem d_PI_mayMeasure_28 : decode prog_8_method_2_code 28 = .ok (.bipush 8, 2) := by decide +kernel
theorem d_PI_mayMeasure_30 : decode prog_8_method_2_code 30 = .ok (.if_icmp .gt 17, 3) := by decide +kernel
theorem d_PI_mayMeasure_33 : decode prog_8_method_2_code 33 = .ok (.iload_n 3, 1) := by decide +kernel
theorem d_PI_mayMeasure_34 : decode prog_8_method_2_code 34 = .ok (.iconst 1, 1) := by decide +kernel
theorem d_PI_mayMeasure_35 : decode prog_8_method_2_code 35 = .ok (.if_icmp .lt 12, 3) := by decide +kernel
theorem d_PI_mayMeasure_38 : decode prog_8_method_2_code 38 = .ok (.iload_n 3, 1) := by decide +kernel
theorem d_PI_mayMeasure_39 : decode prog_8_method_2_code 39 = .ok (.iconst 4, 1) := by decide +kernel
theorem d_PI_mayMeasure_40 : decode prog_8_method_2_code 40 = .ok (.if_icmp .gt 7, 3) := by decide +kernel
theorem d_PI_mayMeasure_43 : decode prog_8_method_2_code 43 = .ok (.iconst 1, 1) := by decide +kernel
theorem d_PI_mayMeasure_44 : decode prog_8_method_2_code 44 = .ok (.goto 4, 3) := by decide +kernel
theorem d_PI_mayMeasure_47 : decode prog_8_method_2_code 47 = .ok (.iconst 0, 1) := by decide +kernel
theorem d_PI_mayMeasure_48 : decode prog_8_method_2_code 48 = .ok (.ireturn, 1) := by decide +kernel
def f_PI_mayMeasure (x0 : Int32) (x1 : Int32) (x2 : Int32) (x3 : Int32) (σ : Mem) : Int32 :=
  (if x0 < (1 : Int32) then (0 : Int32) else (if (12 : Int32) < x0 then (0 : Int32) else (if x1 < (1 : Int32) then (0 : Int32) else (if (12 : Int32) < x1 then (0 : Int32) else (if x2 < (2 : Int32) then (0 : Int32) else (if (8 : Int32) < x2 then (0 : Int32) else (if x3 < (1 : Int32) then (0 : Int32) else (if (4 : Int32) < x3 then (0 : Int32) else (1 : Int32)))))))))
set_option maxHeartbeats 4000000 in
set_option maxRecDepth 100000 in
theorem w_PI_mayMeasure {F : Fx} (C : Ctx F prog_8_method_2_code 4 "LineFrames$Picture" (some .boolean) 0 0) (x0 : Int32) (x1 : Int32) (x2 : Int32) (x3 : Int32) (σ : Mem) : J F 4 (cvI σ) (f_PI_mayMeasure x0 x1 x2 x3 σ) σ 0 [(0, .int x0), (1, .int x1), (2, .int x2), (3, .int x3)] [] := by
  unfold f_PI_mayMeasure
  refine j_iload_n C d_PI_mayMeasure_0 0 rfl ?_
  refine j_iconst (v := (1 : Int32)) C d_PI_mayMeasure_1 (by decide) ?_
  refine d_icmp_lt (a := (0 : Int32)) (b := (if (12 : Int32) < x0 then (0 : Int32) else (if x1 < (1 : Int32) then (0 : Int32) else (if (12 : Int32) < x1 then (0 : Int32) else (if x2 < (2 : Int32) then (0 : Int32) else (if (8 : Int32) < x2 then (0 : Int32) else (if x3 < (1 : Int32) then (0 : Int32) else (if (4 : Int32) < x3 then (0 : Int32) else (1 : Int32))))))))) (jp := 48) (tgt := 47) C d_PI_mayMeasure_2 (by decide) (fun c3 k4 => ?_) (fun c3 k4 => ?_) ?_
  · refine j_iconst (v := (0 : Int32)) C d_PI_mayMeasure_47 (by decide) ?_
    exact k4
  · refine j_iload_n C d_PI_mayMeasure_5 0 rfl ?_
    refine j_bipush (v := (12 : Int32)) C d_PI_mayMeasure_6 (by decide) ?_
    refine d_icmp_gt (a := (0 : Int32)) (b := (if x1 < (1 : Int32) then (0 : Int32) else (if (12 : Int32) < x1 then (0 : Int32) else (if x2 < (2 : Int32) then (0 : Int32) else (if (8 : Int32) < x2 then (0 : Int32) else (if x3 < (1 : Int32) then (0 : Int32) else (if (4 : Int32) < x3 then (0 : Int32) else (1 : Int32)))))))) (jp := 48) (tgt := 47) C d_PI_mayMeasure_8 (by decide) (fun c5 k6 => ?_) (fun c5 k6 => ?_) ?_
    · refine j_iconst (v := (0 : Int32)) C d_PI_mayMeasure_47 (by decide) ?_
      exact k6
    · refine j_iload_n C d_PI_mayMeasure_11 1 rfl ?_
      refine j_iconst (v := (1 : Int32)) C d_PI_mayMeasure_12 (by decide) ?_
      refine d_icmp_lt (a := (0 : Int32)) (b := (if (12 : Int32) < x1 then (0 : Int32) else (if x2 < (2 : Int32) then (0 : Int32) else (if (8 : Int32) < x2 then (0 : Int32) else (if x3 < (1 : Int32) then (0 : Int32) else (if (4 : Int32) < x3 then (0 : Int32) else (1 : Int32))))))) (jp := 48) (tgt := 47) C d_PI_mayMeasure_13 (by decide) (fun c7 k8 => ?_) (fun c7 k8 => ?_) ?_
      · refine j_iconst (v := (0 : Int32)) C d_PI_mayMeasure_47 (by decide) ?_
        exact k8
      · refine j_iload_n C d_PI_mayMeasure_16 1 rfl ?_
        refine j_bipush (v := (12 : Int32)) C d_PI_mayMeasure_17 (by decide) ?_
        refine d_icmp_gt (a := (0 : Int32)) (b := (if x2 < (2 : Int32) then (0 : Int32) else (if (8 : Int32) < x2 then (0 : Int32) else (if x3 < (1 : Int32) then (0 : Int32) else (if (4 : Int32) < x3 then (0 : Int32) else (1 : Int32)))))) (jp := 48) (tgt := 47) C d_PI_mayMeasure_19 (by decide) (fun c9 k10 => ?_) (fun c9 k10 => ?_) ?_
        · refine j_iconst (v := (0 : Int32)) C d_PI_mayMeasure_47 (by decide) ?_
          exact k10
        · refine j_iload_n C d_PI_mayMeasure_22 2 rfl ?_
          refine j_iconst (v := (2 : Int32)) C d_PI_mayMeasure_23 (by decide) ?_
          refine d_icmp_lt (a := (0 : Int32)) (b := (if (8 : Int32) < x2 then (0 : Int32) else (if x3 < (1 : Int32) then (0 : Int32) else (if (4 : Int32) < x3 then (0 : Int32) else (1 : Int32))))) (jp := 48) (tgt := 47) C d_PI_mayMeasure_24 (by decide) (fun c11 k12 => ?_) (fun c11 k12 => ?_) ?_
          · refine j_iconst (v := (0 : Int32)) C d_PI_mayMeasure_47 (by decide) ?_
            exact k12
          · refine j_iload_n C d_PI_mayMeasure_27 2 rfl ?_
            refine j_bipush (v := (8 : Int32)) C d_PI_mayMeasure_28 (by decide) ?_
            refine d_icmp_gt (a := (0 : Int32)) (b := (if x3 < (1 : Int32) then (0 : Int32) else (if (4 : Int32) < x3 then (0 : Int32) else (1 : Int32)))) (jp := 48) (tgt := 47) C d_PI_mayMeasure_30 (by decide) (fun c13 k14 => ?_) (fun c13 k14 => ?_) ?_
            · refine j_iconst (v := (0 : Int32)) C d_PI_mayMeasure_47 (by decide) ?_
              exact k14
            · refine j_iload_n C d_PI_mayMeasure_33 3 rfl ?_
              refine j_iconst (v := (1 : Int32)) C d_PI_mayMeasure_34 (by decide) ?_
              refine d_icmp_lt (a := (0 : Int32)) (b := (if (4 : Int32) < x3 then (0 : Int32) else (1 : Int32))) (jp := 48) (tgt := 47) C d_PI_mayMeasure_35 (by decide) (fun c15 k16 => ?_) (fun c15 k16 => ?_) ?_
              · refine j_iconst (v := (0 : Int32)) C d_PI_mayMeasure_47 (by decide) ?_
                exact k16
              · refine j_iload_n C d_PI_mayMeasure_38 3 rfl ?_
                refine j_iconst (v := (4 : Int32)) C d_PI_mayMeasure_39 (by decide) ?_
                refine d_icmp_gt (a := (0 : Int32)) (b := (1 : Int32)) (jp := 48) (tgt := 47) C d_PI_mayMeasure_40 (by decide) (fun c17 k18 => ?_) (fun c17 k18 => ?_) ?_
                · refine j_iconst (v := (0 : Int32)) C d_PI_mayMeasure_47 (by decide) ?_
                  exact k18
                · refine j_iconst (v := (1 : Int32)) C d_PI_mayMeasure_43 (by decide) ?_
                  refine j_goto (tgt := 48) C d_PI_mayMeasure_44 (by decide) ?_
                  exact k18
                exact k16
              exact k14
            exact k12
          exact k10
        exact k8
      exact k6
    exact k4
  exact j_iretz C (fun ρ h => leaf_eq h) (nz01 (ite01 (Or.inl rfl) (ite01 (Or.inl rfl) (ite01 (Or.inl rfl) (ite01 (Or.inl rfl) (ite01 (Or.inl rfl) (ite01 (Or.inl rfl) (ite01 (Or.inl rfl) (ite01 (Or.inl rfl) (Or.inr rfl)))))))))) d_PI_mayMeasure_48
theorem c_PI_mayMeasure {l : Launch} {D : va_G} {G : GC} {ad : Nat → Nat} (x0 : Int32) (x1 : Int32) (x2 : Int32) (x3 : Int32) (σ : Mem) : Ctr l D G ad ⟨"LineFrames$Picture", "mayMeasure", "(IIII)Z"⟩ prog_8_method_2_code 4 (some .boolean) 0 0 [.int x0, .int x1, .int x2, .int x3] σ (.inl (some (.int (f_PI_mayMeasure x0 x1 x2 x3 σ))), σ) := ctr_J (cv := (cvI σ)) (E := f_PI_mayMeasure x0 x1 x2 x3 σ) (by decide +kernel) (Nat.le_of_ble_eq_true rfl) rfl (fun F h C => by subst h; exact w_PI_mayMeasure C x0 x1 x2 x3 σ)
theorem z_PI_mayMeasure (x0 : Int32) (x1 : Int32) (x2 : Int32) (x3 : Int32) (σ : Mem) : f_PI_mayMeasure x0 x1 x2 x3 σ = 0 ∨ f_PI_mayMeasure x0 x1 x2 x3 σ = 1 := by
  unfold f_PI_mayMeasure
  try simp only [lt]
  repeat' split
  all_goals first | exact Or.inl rfl | exact Or.inr rfl
/-! LineFrames$StreamReader takeFrame (II)I -/
theorem d_SR_takeFrame_0 : decode prog_10_method_14_code 0 = .ok (.aload_n 0, 1) := by decide +kernel
theorem d_SR_takeFrame_1 : decode prog_10_method_14_code 1 = .ok (.getfield 72, 3) := by decide +kernel
theorem d_SR_takeFrame_4 : decode prog_10_method_14_code 4 = .ok (.iload_n 1, 1) := by decide +kernel
theorem d_SR_takeFrame_5 : decode prog_10_method_14_code 5 = .ok (.bipush 9, 2) := by decide +kernel
theorem d_SR_takeFrame_7 : decode prog_10_method_14_code 7 = .ok (.iadd, 1) := by decide +kernel
theorem d_SR_takeFrame_8 : decode prog_10_method_14_code 8 = .ok (.invokevirtual 123, 3) := by decide +kernel
theorem d_SR_takeFrame_11 : decode prog_10_method_14_code 11 = .ok (.istore_n 3, 1) := by decide +kernel
theorem d_SR_takeFrame_12 : decode prog_10_method_14_code 12 = .ok (.iload_n 2, 1) := by decide +kernel
theorem d_SR_takeFrame_13 : decode prog_10_method_14_code 13 = .ok (.bipush 8, 2) := by decide +kernel
theorem d_SR_takeFrame_15 : decode prog_10_method_14_code 15 = .ok (.if_icmp .lt 13, 3) := by decide +kernel
theorem d_SR_takeFrame_18 : decode prog_10_method_14_code 18 = .ok (.iload_n 2, 1) := by decide +kernel
theorem d_SR_takeFrame_19 : decode prog_10_method_14_code 19 = .ok (.bipush 8, 2) := by decide +kernel
theorem d_SR_takeFrame_21 : decode prog_10_method_14_code 21 = .ok (.iconst 3, 1) := by decide +kernel
theorem d_SR_takeFrame_22 : decode prog_10_method_14_code 22 = .ok (.iload_n 3, 1) := by decide +kernel
theorem d_SR_takeFrame_23 : decode prog_10_method_14_code 23 = .ok (.imul, 1) := by decide +kernel
theorem d_SR_takeFrame_24 : decode prog_10_method_14_code 24 = .ok (.iadd, 1) := by decide +kernel
theorem d_SR_takeFrame_25 : decode prog_10_method_14_code 25 = .ok (.if_icmp .eq 5, 3) := by decide +kernel
theorem d_SR_takeFrame_28 : decode prog_10_method_14_code 28 = .ok (.iconst 3, 1) := by decide +kernel
theorem d_SR_takeFrame_29 : decode prog_10_method_14_code 29 = .ok (.ireturn, 1) := by decide +kernel
theorem d_SR_takeFrame_30 : decode prog_10_method_14_code 30 = .ok (.aload_n 0, 1) := by decide +kernel
theorem d_SR_takeFrame_31 : decode prog_10_method_14_code 31 = .ok (.getfield 72, 3) := by decide +kernel
theorem d_SR_takeFrame_34 : decode prog_10_method_14_code 34 = .ok (.iload_n 1, 1) := by decide +kernel
theorem d_SR_takeFrame_35 : decode prog_10_method_14_code 35 = .ok (.iconst 4, 1) := by decide +kernel
theorem d_SR_takeFrame_36 : decode prog_10_method_14_code 36 = .ok (.iadd, 1) := by decide +kernel
theorem d_SR_takeFrame_37 : decode prog_10_method_14_code 37 = .ok (.invokevirtual 123, 3) := by decide +kernel
theorem d_SR_takeFrame_40 : decode prog_10_method_14_code 40 = .ok (.istore 4, 2) := by decide +kernel
theorem d_SR_takeFrame_42 : decode prog_10_method_14_code 42 = .ok (.aload_n 0, 1) := by decide +kernel
theorem d_SR_takeFrame_43 : decode prog_10_method_14_code 43 = .ok (.getfield 72, 3) := by decide +kernel
theorem d_SR_takeFrame_46 : decode prog_10_method_14_code 46 = .ok (.iload_n 1, 1) := by decide +kernel
theorem d_SR_takeFrame_47 : decode prog_10_method_14_code 47 = .ok (.iconst 5, 1) := by decide +kernel
theorem d_SR_takeFrame_48 : decode prog_10_method_14_code 48 = .ok (.iadd, 1) := by decide +kernel
theorem d_SR_takeFrame_49 : decode prog_10_method_14_code 49 = .ok (.invokevirtual 146, 3) := by decide +kernel
theorem d_SR_takeFrame_52 : decode prog_10_method_14_code 52 = .ok (.istore 5, 2) := by decide +kernel
theorem d_SR_takeFrame_54 : decode prog_10_method_14_code 54 = .ok (.aload_n 0, 1) := by decide +kernel
theorem d_SR_takeFrame_55 : decode prog_10_method_14_code 55 = .ok (.getfield 72, 3) := by decide +kernel
theorem d_SR_takeFrame_58 : decode prog_10_method_14_code 58 = .ok (.iload_n 1, 1) := by decide +kernel
theorem d_SR_takeFrame_59 : decode prog_10_method_14_code 59 = .ok (.bipush 7, 2) := by decide +kernel
theorem d_SR_takeFrame_61 : decode prog_10_method_14_code 61 = .ok (.iadd, 1) := by decide +kernel
theorem d_SR_takeFrame_62 : decode prog_10_method_14_code 62 = .ok (.invokevirtual 146, 3) := by decide +kernel
theorem d_SR_takeFrame_65 : decode prog_10_method_14_code 65 = .ok (.istore 6, 2) := by decide +kernel
theorem d_SR_takeFrame_67 : decode prog_10_method_14_code 67 = .ok (.iload 6, 2) := by decide +kernel
theorem d_SR_takeFrame_69 : decode prog_10_method_14_code 69 = .ok (.iload 5, 2) := by decide +kernel
theorem d_SR_takeFrame_71 : decode prog_10_method_14_code 71 = .ok (.iload 4, 2) := by decide +kernel
theorem d_SR_takeFrame_73 : decode prog_10_method_14_code 73 = .ok (.iload_n 3, 1) := by decide +kernel
theorem d_SR_takeFrame_74 : decode prog_10_method_14_code 74 = .ok (.invokestatic 180, 3) := by decide +kernel
theorem d_SR_takeFrame_77 : decode prog_10_method_14_code 77 = .ok (.ifCond .ne 5, 3) := by decide +kernel
theorem d_SR_takeFrame_80 : decode prog_10_method_14_code 80 = .ok (.iconst 4, 1) := by decide +kernel
theorem d_SR_takeFrame_81 : decode prog_10_method_14_code 81 = .ok (.ireturn, 1) := by decide +kernel
theorem d_SR_takeFrame_82 : decode prog_10_method_14_code 82 = .ok (.iconst 0, 1) := by decide +kernel
theorem d_SR_takeFrame_83 : decode prog_10_method_14_code 83 = .ok (.istore 7, 2) := by decide +kernel
theorem d_SR_takeFrame_85 : decode prog_10_method_14_code 85 = .ok (.iload 7, 2) := by decide +kernel
theorem d_SR_takeFrame_87 : decode prog_10_method_14_code 87 = .ok (.iload_n 3, 1) := by decide +kernel
theorem d_SR_takeFrame_88 : decode prog_10_method_14_code 88 = .ok (.if_icmp .ge 68, 3) := by decide +kernel
theorem d_SR_takeFrame_91 : decode prog_10_method_14_code 91 = .ok (.iload_n 1, 1) := by decide +kernel
theorem d_SR_takeFrame_92 : decode prog_10_method_14_code 92 = .ok (.bipush 10, 2) := by decide +kernel
theorem d_SR_takeFrame_94 : decode prog_10_method_14_code 94 = .ok (.iadd, 1) := by decide +kernel
theorem d_SR_takeFrame_95 : decode prog_10_method_14_code 95 = .ok (.iconst 3, 1) := by decide +kernel
theorem d_SR_takeFrame_96 : decode prog_10_method_14_code 96 = .ok (.iload 7, 2) := by decide +kernel
theorem d_SR_takeFrame_98 : decode prog_10_method_14_code 98 = .ok (.imul, 1) := by decide +kernel
theorem d_SR_takeFrame_99 : decode prog_10_method_14_code 99 = .ok (.iadd, 1) := by decide +kernel
theorem d_SR_takeFrame_100 : decode prog_10_method_14_code 100 = .ok (.istore 8, 2) := by decide +kernel
theorem d_SR_takeFrame_102 : decode prog_10_method_14_code 102 = .ok (.aload_n 0, 1) := by decide +kernel
theorem d_SR_takeFrame_103 : decode prog_10_method_14_code 103 = .ok (.getfield 72, 3) := by decide +kernel
theorem d_SR_takeFrame_106 : decode prog_10_method_14_code 106 = .ok (.iload 8, 2) := by decide +kernel
theorem d_SR_takeFrame_108 : decode prog_10_method_14_code 108 = .ok (.invokevirtual 123, 3) := by decide +kernel
theorem d_SR_takeFrame_111 : decode prog_10_method_14_code 111 = .ok (.iload 7, 2) := by decide +kernel
theorem d_SR_takeFrame_113 : decode prog_10_method_14_code 113 = .ok (.iconst 1, 1) := by decide +kernel
theorem d_SR_takeFrame_114 : decode prog_10_method_14_code 114 = .ok (.iadd, 1) := by decide +kernel
theorem d_SR_takeFrame_115 : decode prog_10_method_14_code 115 = .ok (.if_icmp .ne 33, 3) := by decide +kernel
theorem d_SR_takeFrame_118 : decode prog_10_method_14_code 118 = .ok (.aload_n 0, 1) := by decide +kernel
theorem d_SR_takeFrame_119 : decode prog_10_method_14_code 119 = .ok (.getfield 72, 3) := by decide +kernel
theorem d_SR_takeFrame_122 : decode prog_10_method_14_code 122 = .ok (.iload 8, 2) := by decide +kernel
theorem d_SR_takeFrame_124 : decode prog_10_method_14_code 124 = .ok (.iconst 1, 1) := by decide +kernel
theorem d_SR_takeFrame_125 : decode prog_10_method_14_code 125 = .ok (.iadd, 1) := by decide +kernel
theorem d_SR_takeFrame_126 : decode prog_10_method_14_code 126 = .ok (.invokevirtual 123, 3) := by decide +kernel
theorem d_SR_takeFrame_129 : decode prog_10_method_14_code 129 = .ok (.bipush 17, 2) := by decide +kernel
theorem d_SR_takeFrame_131 : decode prog_10_method_14_code 131 = .ok (.if_icmp .ne 17, 3) := by decide +kernel
theorem d_SR_takeFrame_134 : decode prog_10_method_14_code 134 = .ok (.aload_n 0, 1) := by decide +kernel
theorem d_SR_takeFrame_135 : decode prog_10_method_14_code 135 = .ok (.getfield 72, 3) := by decide +kernel
theorem d_SR_takeFrame_138 : decode prog_10_method_14_code 138 = .ok (.iload 8, 2) := by decide +kernel
theorem d_SR_takeFrame_140 : decode prog_10_method_14_code 140 = .ok (.iconst 2, 1) := by decide +kernel
theorem d_SR_takeFrame_141 : decode prog_10_method_14_code 141 = .ok (.iadd, 1) := by decide +kernel
theorem d_SR_takeFrame_142 : decode prog_10_method_14_code 142 = .ok (.invokevirtual 123, 3) := by decide +kernel
theorem d_SR_takeFrame_145 : decode prog_10_method_14_code 145 = .ok (.ifCond .eq 5, 3) := by decide +kernel
theorem d_SR_takeFrame_148 : decode prog_10_method_14_code 148 = .ok (.iconst 4, 1) := by decide +kernel
theorem d_SR_takeFrame_149 : decode prog_10_method_14_code 149 = .ok (.ireturn, 1) := by decide +kernel
theorem d_SR_takeFrame_150 : decode prog_10_method_14_code 150 = .ok (.iinc 7 1, 3) := by decide +kernel
theorem d_SR_takeFrame_153 : decode prog_10_method_14_code 153 = .ok (.goto (-68), 3) := by decide +kernel
theorem d_SR_takeFrame_156 : decode prog_10_method_14_code 156 = .ok (.aload_n 0, 1) := by decide +kernel
theorem d_SR_takeFrame_157 : decode prog_10_method_14_code 157 = .ok (.getfield 12, 3) := by decide +kernel
theorem d_SR_takeFrame_160 : decode prog_10_method_14_code 160 = .ok (.iload 6, 2) := by decide +kernel
theorem d_SR_takeFrame_162 : decode prog_10_method_14_code 162 = .ok (.iload 5, 2) := by decide +kernel
theorem d_SR_takeFrame_164 : decode prog_10_method_14_code 164 = .ok (.iload 4, 2) := by decide +kernel
theorem d_SR_takeFrame_166 : decode prog_10_method_14_code 166 = .ok (.iload_n 3, 1) := by decide +kernel
theorem d_SR_takeFrame_167 : decode prog_10_method_14_code 167 = .ok (.invokevirtual 184, 3) := by decide +kernel
theorem d_SR_takeFrame_170 : decode prog_10_method_14_code 170 = .ok (.iconst 0, 1) := by decide +kernel
theorem d_SR_takeFrame_171 : decode prog_10_method_14_code 171 = .ok (.ireturn, 1) := by decide +kernel
def L_SR_takeFrame_85 (r0 : Nat) (b1 : Int32) (b2 : Int32) (b3 : Int32) (b4 : Int32) (b5 : Int32) (b6 : Int32) (σ : Mem) : Nat → Int32 →  Option ((Int32) ⊕ Int32)
  | 0, _ => none
  | n + 1, a7 =>
  if b3 ≤ a7 then
  some (.inl a7)
  else
  lt ((b1 + (10 : Int32)) + ((3 : Int32) * a7)) fun v15 =>
  if (f_BY_get (wtg r0 0) v15 σ) = (a7 + (1 : Int32)) then
  if (f_BY_get (wtg r0 0) (v15 + (1 : Int32)) σ) = (17 : Int32) then
  if (f_BY_get (wtg r0 0) (v15 + (2 : Int32)) σ) = 0 then
  L_SR_takeFrame_85 r0 b1 b2 b3 b4 b5 b6 σ n (a7 + (1 : Int32))
  else
  some (.inr (4 : Int32))
  else
  some (.inr (4 : Int32))
  else
  some (.inr (4 : Int32))
def f_SR_takeFrame (k0 : Nat) (x1 : Int32) (x2 : Int32) (σ : Mem) : Option (Int32 × Mem) :=
  lt (f_BY_get (wtg k0 0) (x1 + (9 : Int32)) σ) fun v1 =>
  if x2 < (8 : Int32) then
  some ((3 : Int32), σ)
  else
  if x2 = ((8 : Int32) + ((3 : Int32) * v1)) then
  lt (f_BY_get (wtg k0 0) (x1 + (4 : Int32)) σ) fun v10 =>
  lt (f_BY_wide (wtg k0 0) (x1 + (5 : Int32)) σ) fun v11 =>
  lt (f_BY_wide (wtg k0 0) (x1 + (7 : Int32)) σ) fun v12 =>
  if (f_PI_mayMeasure v12 v11 v10 v1 σ) = 0 then
  some ((4 : Int32), σ)
  else
  (L_SR_takeFrame_85 k0 x1 x2 v1 v10 v11 v12 σ 9999 (0 : Int32)).bind fun q33_ => ecase q33_ (fun q33 =>
  lt (f_PI_measure (wtg k0 1) v12 v11 v10 v1 σ) fun σ34 =>
  some ((0 : Int32), σ34)) (fun e35 => some (e35, σ))
  else
  some ((3 : Int32), σ)
set_option maxHeartbeats 4000000 in
set_option maxRecDepth 100000 in
theorem wL_SR_takeFrame_85 {F : Fx} (C : Ctx F prog_10_method_14_code 9 "LineFrames$StreamReader" (some .int) 2 42) {cv : Option ((Int32) ⊕ Int32) → Option Rs} (h0 : cv none = none) (r0 : Nat) (hr0 : Is r0 9) (b1 : Int32) (b2 : Int32) (b3 : Int32) (b4 : Int32) (b5 : Int32) (b6 : Int32) (σ : Mem) (hR : ∀ (e : Int32) (ρ : Rs), cv (some (.inr e)) = some ρ → ρ = (.inl (some (.int e)), σ)) (hex : ∀ q : Int32, J F 9 cv (some (.inl q)) σ 156 [(0, .ref (fad F r0)), (1, .int b1), (2, .int b2), (3, .int b3), (4, .int b4), (5, .int b5), (6, .int b6), (7, .int q)] []) : ∀ (n : Nat) (a7 : Int32), J F 9 cv (L_SR_takeFrame_85 r0 b1 b2 b3 b4 b5 b6 σ n a7) σ 85 [(0, .ref (fad F r0)), (1, .int b1), (2, .int b2), (3, .int b3), (4, .int b4), (5, .int b5), (6, .int b6), (7, .int a7)] [] := by
  intro n
  induction n with
  | zero => intro a7 hE; rw [L_SR_takeFrame_85, h0] at hE; cases hE
  | succ n ih =>
    intro a7
    rw [L_SR_takeFrame_85]
    refine j_iload C d_SR_takeFrame_85 7 rfl ?_
    refine j_iload_n C d_SR_takeFrame_87 3 rfl ?_
    refine j_icmp_ge (tgt := 156) C d_SR_takeFrame_88 (by decide) (fun c14 => ?_) (fun c14 => ?_)
    · exact hex a7
    · refine j_iload_n C d_SR_takeFrame_91 1 rfl ?_
      refine j_bipush (v := (10 : Int32)) C d_SR_takeFrame_92 (by decide) ?_
      refine j_iadd C d_SR_takeFrame_94 ?_
      refine j_iconst (v := (3 : Int32)) C d_SR_takeFrame_95 (by decide) ?_
      refine j_iload C d_SR_takeFrame_96 7 rfl ?_
      refine j_imul C d_SR_takeFrame_98 ?_
      refine j_iadd C d_SR_takeFrame_99 ?_
      refine j_nm (fun v15 v15_e => ?_)
      refine j_istore (lv9 := [(0, .ref (fad F r0)), (1, .int b1), (2, .int b2), (3, .int b3), (4, .int b4), (5, .int b5), (6, .int b6), (7, .int a7), (8, .int v15)]) C d_SR_takeFrame_100 rfl rfl (by decide) ?_
      refine j_aload_n C d_SR_takeFrame_102 0 rfl ?_
      refine j_getR C hr0 fl_SR_72 rfl d_SR_takeFrame_103 ?_
      refine j_iload C d_SR_takeFrame_106 8 rfl ?_
      refine j_callVi C mv_SR_123 [.int v15] [] (tg_9_0 _ hr0) (c_BY_get (tg_9_0 _ hr0) v15 σ) rfl rfl (by decide) (Nat.le_of_ble_eq_true rfl) d_SR_takeFrame_108 ?_
      refine j_iload C d_SR_takeFrame_111 7 rfl ?_
      refine j_iconst (v := (1 : Int32)) C d_SR_takeFrame_113 (by decide) ?_
      refine j_iadd C d_SR_takeFrame_114 ?_
      refine j_icmp_ne (tgt := 148) C d_SR_takeFrame_115 (by decide) (fun c24 => ?_) (fun c24 => ?_)
      · refine j_iconst (v := (4 : Int32)) C d_SR_takeFrame_148 (by decide) ?_
        exact j_ireti C (hR (4 : Int32)) d_SR_takeFrame_149
      · refine j_aload_n C d_SR_takeFrame_118 0 rfl ?_
        refine j_getR C hr0 fl_SR_72 rfl d_SR_takeFrame_119 ?_
        refine j_iload C d_SR_takeFrame_122 8 rfl ?_
        refine j_iconst (v := (1 : Int32)) C d_SR_takeFrame_124 (by decide) ?_
        refine j_iadd C d_SR_takeFrame_125 ?_
        refine j_callVi C mv_SR_123 [.int (v15 + (1 : Int32))] [] (tg_9_0 _ hr0) (c_BY_get (tg_9_0 _ hr0) (v15 + (1 : Int32)) σ) rfl rfl (by decide) (Nat.le_of_ble_eq_true rfl) d_SR_takeFrame_126 ?_
        refine j_bipush (v := (17 : Int32)) C d_SR_takeFrame_129 (by decide) ?_
        refine j_icmp_ne (tgt := 148) C d_SR_takeFrame_131 (by decide) (fun c31 => ?_) (fun c31 => ?_)
        · refine j_iconst (v := (4 : Int32)) C d_SR_takeFrame_148 (by decide) ?_
          exact j_ireti C (hR (4 : Int32)) d_SR_takeFrame_149
        · refine j_aload_n C d_SR_takeFrame_134 0 rfl ?_
          refine j_getR C hr0 fl_SR_72 rfl d_SR_takeFrame_135 ?_
          refine j_iload C d_SR_takeFrame_138 8 rfl ?_
          refine j_iconst (v := (2 : Int32)) C d_SR_takeFrame_140 (by decide) ?_
          refine j_iadd C d_SR_takeFrame_141 ?_
          refine j_callVi C mv_SR_123 [.int (v15 + (2 : Int32))] [] (tg_9_0 _ hr0) (c_BY_get (tg_9_0 _ hr0) (v15 + (2 : Int32)) σ) rfl rfl (by decide) (Nat.le_of_ble_eq_true rfl) d_SR_takeFrame_142 ?_
          refine j_if_eq (tgt := 150) C d_SR_takeFrame_145 (by decide) (fun c32 => ?_) (fun c32 => ?_)
          · refine j_iinc (v := (a7 + (1 : Int32))) (lv9 := [(0, .ref (fad F r0)), (1, .int b1), (2, .int b2), (3, .int b3), (4, .int b4), (5, .int b5), (6, .int b6), (7, .int (a7 + (1 : Int32))), (8, .int v15)]) C d_SR_takeFrame_150 7 rfl rfl rfl rfl (by decide) ?_
            refine j_goto (tgt := 85) C d_SR_takeFrame_153 (by decide) ?_
            refine j_sub (lv9 := [(0, .ref (fad F r0)), (1, .int b1), (2, .int b2), (3, .int b3), (4, .int b4), (5, .int b5), (6, .int b6), (7, .int (a7 + (1 : Int32)))]) [0, 1, 2, 3, 4, 5, 6, 7] rfl ?_
            exact ih (a7 + (1 : Int32))
          · refine j_iconst (v := (4 : Int32)) C d_SR_takeFrame_148 (by decide) ?_
            exact j_ireti C (hR (4 : Int32)) d_SR_takeFrame_149
set_option maxHeartbeats 4000000 in
set_option maxRecDepth 100000 in
theorem w_SR_takeFrame {F : Fx} (C : Ctx F prog_10_method_14_code 9 "LineFrames$StreamReader" (some .int) 2 42) {k0 : Nat} (h0k : Is k0 9) (x1 : Int32) (x2 : Int32) (σ : Mem) : J F 9 (cvO cvIM) (f_SR_takeFrame k0 x1 x2 σ) σ 0 [(0, .ref (fad F k0)), (1, .int x1), (2, .int x2)] [] := by
  unfold f_SR_takeFrame
  refine j_aload_n C d_SR_takeFrame_0 0 rfl ?_
  refine j_getR C h0k fl_SR_72 rfl d_SR_takeFrame_1 ?_
  refine j_iload_n C d_SR_takeFrame_4 1 rfl ?_
  refine j_bipush (v := (9 : Int32)) C d_SR_takeFrame_5 (by decide) ?_
  refine j_iadd C d_SR_takeFrame_7 ?_
  refine j_callVi C mv_SR_123 [.int (x1 + (9 : Int32))] [] (tg_9_0 _ h0k) (c_BY_get (tg_9_0 _ h0k) (x1 + (9 : Int32)) σ) rfl rfl (by decide) (Nat.le_of_ble_eq_true rfl) d_SR_takeFrame_8 ?_
  refine j_nm (fun v1 v1_e => ?_)
  refine j_istore_n (lv9 := [(0, .ref (fad F k0)), (1, .int x1), (2, .int x2), (3, .int v1)]) C d_SR_takeFrame_11 rfl rfl (by decide) ?_
  refine j_iload_n C d_SR_takeFrame_12 2 rfl ?_
  refine j_bipush (v := (8 : Int32)) C d_SR_takeFrame_13 (by decide) ?_
  refine j_icmp_lt (tgt := 28) C d_SR_takeFrame_15 (by decide) (fun c8 => ?_) (fun c8 => ?_)
  · refine j_iconst (v := (3 : Int32)) C d_SR_takeFrame_28 (by decide) ?_
    exact j_ireti C (fun ρ h => leaf_eq h) d_SR_takeFrame_29
  · refine j_iload_n C d_SR_takeFrame_18 2 rfl ?_
    refine j_bipush (v := (8 : Int32)) C d_SR_takeFrame_19 (by decide) ?_
    refine j_iconst (v := (3 : Int32)) C d_SR_takeFrame_21 (by decide) ?_
    refine j_iload_n C d_SR_takeFrame_22 3 rfl ?_
    refine j_imul C d_SR_takeFrame_23 ?_
    refine j_iadd C d_SR_takeFrame_24 ?_
    refine j_icmp_eq (tgt := 30) C d_SR_takeFrame_25 (by decide) (fun c9 => ?_) (fun c9 => ?_)
    · refine j_aload_n C d_SR_takeFrame_30 0 rfl ?_
      refine j_getR C h0k fl_SR_72 rfl d_SR_takeFrame_31 ?_
      refine j_iload_n C d_SR_takeFrame_34 1 rfl ?_
      refine j_iconst (v := (4 : Int32)) C d_SR_takeFrame_35 (by decide) ?_
      refine j_iadd C d_SR_takeFrame_36 ?_
      refine j_callVi C mv_SR_123 [.int (x1 + (4 : Int32))] [] (tg_9_0 _ h0k) (c_BY_get (tg_9_0 _ h0k) (x1 + (4 : Int32)) σ) rfl rfl (by decide) (Nat.le_of_ble_eq_true rfl) d_SR_takeFrame_37 ?_
      refine j_nm (fun v10 v10_e => ?_)
      refine j_istore (lv9 := [(0, .ref (fad F k0)), (1, .int x1), (2, .int x2), (3, .int v1), (4, .int v10)]) C d_SR_takeFrame_40 rfl rfl (by decide) ?_
      refine j_aload_n C d_SR_takeFrame_42 0 rfl ?_
      refine j_getR C h0k fl_SR_72 rfl d_SR_takeFrame_43 ?_
      refine j_iload_n C d_SR_takeFrame_46 1 rfl ?_
      refine j_iconst (v := (5 : Int32)) C d_SR_takeFrame_47 (by decide) ?_
      refine j_iadd C d_SR_takeFrame_48 ?_
      refine j_callVi C mv_SR_146 [.int (x1 + (5 : Int32))] [] (tg_9_0 _ h0k) (c_BY_wide (tg_9_0 _ h0k) (x1 + (5 : Int32)) σ) rfl rfl (by decide) (Nat.le_of_ble_eq_true rfl) d_SR_takeFrame_49 ?_
      refine j_nm (fun v11 v11_e => ?_)
      refine j_istore (lv9 := [(0, .ref (fad F k0)), (1, .int x1), (2, .int x2), (3, .int v1), (4, .int v10), (5, .int v11)]) C d_SR_takeFrame_52 rfl rfl (by decide) ?_
      refine j_aload_n C d_SR_takeFrame_54 0 rfl ?_
      refine j_getR C h0k fl_SR_72 rfl d_SR_takeFrame_55 ?_
      refine j_iload_n C d_SR_takeFrame_58 1 rfl ?_
      refine j_bipush (v := (7 : Int32)) C d_SR_takeFrame_59 (by decide) ?_
      refine j_iadd C d_SR_takeFrame_61 ?_
      refine j_callVi C mv_SR_146 [.int (x1 + (7 : Int32))] [] (tg_9_0 _ h0k) (c_BY_wide (tg_9_0 _ h0k) (x1 + (7 : Int32)) σ) rfl rfl (by decide) (Nat.le_of_ble_eq_true rfl) d_SR_takeFrame_62 ?_
      refine j_nm (fun v12 v12_e => ?_)
      refine j_istore (lv9 := [(0, .ref (fad F k0)), (1, .int x1), (2, .int x2), (3, .int v1), (4, .int v10), (5, .int v11), (6, .int v12)]) C d_SR_takeFrame_65 rfl rfl (by decide) ?_
      refine j_iload C d_SR_takeFrame_67 6 rfl ?_
      refine j_iload C d_SR_takeFrame_69 5 rfl ?_
      refine j_iload C d_SR_takeFrame_71 4 rfl ?_
      refine j_iload_n C d_SR_takeFrame_73 3 rfl ?_
      refine j_callSi C ms_SR_180 [.int v12, .int v11, .int v10, .int v1] [] (c_PI_mayMeasure v12 v11 v10 v1 σ) rfl rfl (by decide) (Nat.le_of_ble_eq_true rfl) d_SR_takeFrame_74 ?_
      refine j_if_ne (tgt := 82) C d_SR_takeFrame_77 (by decide) (fun c13 => ?_) (fun c13 => ?_)
      · refine j_iconst (v := (0 : Int32)) C d_SR_takeFrame_82 (by decide) ?_
        refine j_istore (lv9 := [(0, .ref (fad F k0)), (1, .int x1), (2, .int x2), (3, .int v1), (4, .int v10), (5, .int v11), (6, .int v12), (7, .int (0 : Int32))]) C d_SR_takeFrame_83 rfl rfl (by decide) ?_
        refine j_loop (wL_SR_takeFrame_85 C rfl k0 h0k x1 x2 v1 v10 v11 v12 σ (fun e35 ρ h => leaf_eq h) (fun q33 => j_some ?_) 9999 (0 : Int32))
        refine j_aload_n C d_SR_takeFrame_156 0 rfl ?_
        refine j_getR C h0k fl_SR_12 rfl d_SR_takeFrame_157 ?_
        refine j_iload C d_SR_takeFrame_160 6 rfl ?_
        refine j_iload C d_SR_takeFrame_162 5 rfl ?_
        refine j_iload C d_SR_takeFrame_164 4 rfl ?_
        refine j_iload_n C d_SR_takeFrame_166 3 rfl ?_
        refine j_callVv C mv_SR_184 [.int v12, .int v11, .int v10, .int v1] [] (tg_9_1 _ h0k) (c_PI_measure (tg_9_1 _ h0k) v12 v11 v10 v1 σ) rfl rfl (by decide) (Nat.le_of_ble_eq_true rfl) d_SR_takeFrame_167 ?_
        refine j_genM (fun σ34 => ?_)
        refine j_iconst (v := (0 : Int32)) C d_SR_takeFrame_170 (by decide) ?_
        exact j_ireti C (fun ρ h => leaf_eq h) d_SR_takeFrame_171
      · refine j_iconst (v := (4 : Int32)) C d_SR_takeFrame_80 (by decide) ?_
        exact j_ireti C (fun ρ h => leaf_eq h) d_SR_takeFrame_81
    · refine j_iconst (v := (3 : Int32)) C d_SR_takeFrame_28 (by decide) ?_
      exact j_ireti C (fun ρ h => leaf_eq h) d_SR_takeFrame_29
theorem c_SR_takeFrame {l : Launch} {D : va_G} {G : GC} {ad : Nat → Nat} {k0 : Nat} (h0k : Is k0 9) (x1 : Int32) (x2 : Int32) (σ : Mem) {q : Int32 × Mem} (hq : f_SR_takeFrame k0 x1 x2 σ = some q) : Ctr l D G ad ⟨"LineFrames$StreamReader", "takeFrame", "(II)I"⟩ prog_10_method_14_code 9 (some .int) 2 42 [.ref (ad k0), .int x1, .int x2] σ (.inl (some (.int q.1)), q.2) := ctr_J (cv := (cvO cvIM)) (E := f_SR_takeFrame k0 x1 x2 σ) (by decide +kernel) (Nat.le_of_ble_eq_true rfl) (by rw [hq]; rfl) (fun F h C => by subst h; exact w_SR_takeFrame C h0k x1 x2 σ)
/-! LineFrames$Picture mayPreset (II)Z -/
theorem d_PI_mayPreset_0 : decode prog_8_method_3_code 0 = .ok (.iload_n 0, 1) := by decide +kernel
theorem d_PI_mayPreset_1 : decode prog_8_method_3_code 1 = .ok (.tableswitch 79 0 2 #[27, 45, 63], 27) := by decide +kernel
theorem d_PI_mayPreset_28 : decode prog_8_method_3_code 28 = .ok (.iload_n 1, 1) := by decide +kernel
theorem d_PI_mayPreset_29 : decode prog_8_method_3_code 29 = .ok (.iconst 3, 1) := by decide +kernel
theorem d_PI_mayPreset_30 : decode prog_8_method_3_code 30 = .ok (.if_icmp .lt 14, 3) := by decide +kernel
theorem d_PI_mayPreset_33 : decode prog_8_method_3_code 33 = .ok (.iload_n 1, 1) := by decide +kernel
theorem d_PI_mayPreset_34 : decode prog_8_method_3_code 34 = .ok (.sipush 255, 3) := by decide +kernel
theorem d_PI_mayPreset_37 : decode prog_8_method_3_code 37 = .ok (.if_icmp .gt 7, 3) := by decide +kernel
theorem d_PI_mayPreset_40 : decode prog_8_method_3_code 40 = .ok (.iconst 1, 1) := by decide +kernel
theorem d_PI_mayPreset_41 : decode prog_8_method_3_code 41 = .ok (.goto 4, 3) := by decide +kernel
theorem d_PI_mayPreset_44 : decode prog_8_method_3_code 44 = .ok (.iconst 0, 1) := by decide +kernel
theorem d_PI_mayPreset_45 : decode prog_8_method_3_code 45 = .ok (.ireturn, 1) := by decide +kernel
theorem d_PI_mayPreset_46 : decode prog_8_method_3_code 46 = .ok (.iload_n 1, 1) := by decide +kernel
theorem d_PI_mayPreset_47 : decode prog_8_method_3_code 47 = .ok (.iconst 1, 1) := by decide +kernel
theorem d_PI_mayPreset_48 : decode prog_8_method_3_code 48 = .ok (.if_icmp .lt 14, 3) := by decide +kernel
theorem d_PI_mayPreset_51 : decode prog_8_method_3_code 51 = .ok (.iload_n 1, 1) := by decide +kernel
theorem d_PI_mayPreset_52 : decode prog_8_method_3_code 52 = .ok (.sipush 255, 3) := by decide +kernel
theorem d_PI_mayPreset_55 : decode prog_8_method_3_code 55 = .ok (.if_icmp .gt 7, 3) := by decide +kernel
theorem d_PI_mayPreset_58 : decode prog_8_method_3_code 58 = .ok (.iconst 1, 1) := by decide +kernel
theorem d_PI_mayPreset_59 : decode prog_8_method_3_code 59 = .ok (.goto 4, 3) := by decide +kernel
theorem d_PI_mayPreset_62 : decode prog_8_method_3_code 62 = .ok (.iconst 0, 1) := by decide +kernel
theorem d_PI_mayPreset_63 : decode prog_8_method_3_code 63 = .ok (.ireturn, 1) := by decide +kernel
theorem d_PI_mayPreset_64 : decode prog_8_method_3_code 64 = .ok (.iload_n 1, 1) := by decide +kernel
theorem d_PI_mayPreset_65 : decode prog_8_method_3_code 65 = .ok (.ifCond .lt 13, 3) := by decide +kernel
theorem d_PI_mayPreset_68 : decode prog_8_method_3_code 68 = .ok (.iload_n 1, 1) := by decide +kernel
theorem d_PI_mayPreset_69 : decode prog_8_method_3_code 69 = .ok (.bipush 12, 2) := by decide +kernel
theorem d_PI_mayPreset_71 : decode prog_8_method_3_code 71 = .ok (.if_icmp .gt 7, 3) := by decide +kernel
theorem d_PI_mayPreset_74 : decode prog_8_method_3_code 74 = .ok (.iconst 1, 1) := by decide +kernel
theorem d_PI_mayPreset_75 : decode prog_8_method_3_code 75 = .ok (.goto 4, 3) := by decide +kernel
theorem d_PI_mayPreset_78 : decode prog_8_method_3_code 78 = .ok (.iconst 0, 1) := by decide +kernel
theorem d_PI_mayPreset_79 : decode prog_8_method_3_code 79 = .ok (.ireturn, 1) := by decide +kernel
theorem d_PI_mayPreset_80 : decode prog_8_method_3_code 80 = .ok (.iconst 0, 1) := by decide +kernel
theorem d_PI_mayPreset_81 : decode prog_8_method_3_code 81 = .ok (.ireturn, 1) := by decide +kernel
def f_PI_mayPreset (x0 : Int32) (x1 : Int32) (σ : Mem) : Int32 :=
  if x0 = 0 then
  (if x1 < (3 : Int32) then (0 : Int32) else (if (255 : Int32) < x1 then (0 : Int32) else (1 : Int32)))
  else
  if x0 = 1 then
  (if x1 < (1 : Int32) then (0 : Int32) else (if (255 : Int32) < x1 then (0 : Int32) else (1 : Int32)))
  else
  if x0 = 2 then
  (if x1 < 0 then (0 : Int32) else (if (12 : Int32) < x1 then (0 : Int32) else (1 : Int32)))
  else
  (0 : Int32)
set_option maxHeartbeats 4000000 in
set_option maxRecDepth 100000 in
theorem w_PI_mayPreset {F : Fx} (C : Ctx F prog_8_method_3_code 2 "LineFrames$Picture" (some .boolean) 0 0) (x0 : Int32) (x1 : Int32) (σ : Mem) : J F 2 (cvI σ) (f_PI_mayPreset x0 x1 σ) σ 0 [(0, .int x0), (1, .int x1)] [] := by
  unfold f_PI_mayPreset
  refine j_iload_n C d_PI_mayPreset_0 0 rfl ?_
  refine j_case (fun c1 => ?_) (fun c1 => ?_)
  · refine j_tin (x := x0) (k := 0) (off := 27) (tgt := 28) C d_PI_mayPreset_1 c1 (by decide) (by decide) (by decide) (by decide) ?_
    refine j_iload_n C d_PI_mayPreset_28 1 rfl ?_
    refine j_iconst (v := (3 : Int32)) C d_PI_mayPreset_29 (by decide) ?_
    refine d_icmp_lt (a := (0 : Int32)) (b := (if (255 : Int32) < x1 then (0 : Int32) else (1 : Int32))) (jp := 45) (tgt := 44) C d_PI_mayPreset_30 (by decide) (fun c6 k7 => ?_) (fun c6 k7 => ?_) ?_
    · refine j_iconst (v := (0 : Int32)) C d_PI_mayPreset_44 (by decide) ?_
      exact k7
    · refine j_iload_n C d_PI_mayPreset_33 1 rfl ?_
      refine j_sipush (v := (255 : Int32)) C d_PI_mayPreset_34 (by decide) ?_
      refine d_icmp_gt (a := (0 : Int32)) (b := (1 : Int32)) (jp := 45) (tgt := 44) C d_PI_mayPreset_37 (by decide) (fun c8 k9 => ?_) (fun c8 k9 => ?_) ?_
      · refine j_iconst (v := (0 : Int32)) C d_PI_mayPreset_44 (by decide) ?_
        exact k9
      · refine j_iconst (v := (1 : Int32)) C d_PI_mayPreset_40 (by decide) ?_
        refine j_goto (tgt := 45) C d_PI_mayPreset_41 (by decide) ?_
        exact k9
      exact k7
    exact j_iretz C (fun ρ h => leaf_eq h) (nz01 (ite01 (Or.inl rfl) (ite01 (Or.inl rfl) (Or.inr rfl)))) d_PI_mayPreset_45
  · refine j_case (fun c2 => ?_) (fun c2 => ?_)
    · refine j_tin (x := x0) (k := 1) (off := 45) (tgt := 46) C d_PI_mayPreset_1 c2 (by decide) (by decide) (by decide) (by decide) ?_
      refine j_iload_n C d_PI_mayPreset_46 1 rfl ?_
      refine j_iconst (v := (1 : Int32)) C d_PI_mayPreset_47 (by decide) ?_
      refine d_icmp_lt (a := (0 : Int32)) (b := (if (255 : Int32) < x1 then (0 : Int32) else (1 : Int32))) (jp := 63) (tgt := 62) C d_PI_mayPreset_48 (by decide) (fun c12 k13 => ?_) (fun c12 k13 => ?_) ?_
      · refine j_iconst (v := (0 : Int32)) C d_PI_mayPreset_62 (by decide) ?_
        exact k13
      · refine j_iload_n C d_PI_mayPreset_51 1 rfl ?_
        refine j_sipush (v := (255 : Int32)) C d_PI_mayPreset_52 (by decide) ?_
        refine d_icmp_gt (a := (0 : Int32)) (b := (1 : Int32)) (jp := 63) (tgt := 62) C d_PI_mayPreset_55 (by decide) (fun c14 k15 => ?_) (fun c14 k15 => ?_) ?_
        · refine j_iconst (v := (0 : Int32)) C d_PI_mayPreset_62 (by decide) ?_
          exact k15
        · refine j_iconst (v := (1 : Int32)) C d_PI_mayPreset_58 (by decide) ?_
          refine j_goto (tgt := 63) C d_PI_mayPreset_59 (by decide) ?_
          exact k15
        exact k13
      exact j_iretz C (fun ρ h => leaf_eq h) (nz01 (ite01 (Or.inl rfl) (ite01 (Or.inl rfl) (Or.inr rfl)))) d_PI_mayPreset_63
    · refine j_case (fun c3 => ?_) (fun c3 => ?_)
      · refine j_tin (x := x0) (k := 2) (off := 63) (tgt := 64) C d_PI_mayPreset_1 c3 (by decide) (by decide) (by decide) (by decide) ?_
        refine j_iload_n C d_PI_mayPreset_64 1 rfl ?_
        refine d_if_lt (a := (0 : Int32)) (b := (if (12 : Int32) < x1 then (0 : Int32) else (1 : Int32))) (jp := 79) (tgt := 78) C d_PI_mayPreset_65 (by decide) (fun c18 k19 => ?_) (fun c18 k19 => ?_) ?_
        · refine j_iconst (v := (0 : Int32)) C d_PI_mayPreset_78 (by decide) ?_
          exact k19
        · refine j_iload_n C d_PI_mayPreset_68 1 rfl ?_
          refine j_bipush (v := (12 : Int32)) C d_PI_mayPreset_69 (by decide) ?_
          refine d_icmp_gt (a := (0 : Int32)) (b := (1 : Int32)) (jp := 79) (tgt := 78) C d_PI_mayPreset_71 (by decide) (fun c20 k21 => ?_) (fun c20 k21 => ?_) ?_
          · refine j_iconst (v := (0 : Int32)) C d_PI_mayPreset_78 (by decide) ?_
            exact k21
          · refine j_iconst (v := (1 : Int32)) C d_PI_mayPreset_74 (by decide) ?_
            refine j_goto (tgt := 79) C d_PI_mayPreset_75 (by decide) ?_
            exact k21
          exact k19
        exact j_iretz C (fun ρ h => leaf_eq h) (nz01 (ite01 (Or.inl rfl) (ite01 (Or.inl rfl) (Or.inr rfl)))) d_PI_mayPreset_79
      · refine j_tout (lo := 0) (hi := 2) (tgt := 80) C d_PI_mayPreset_1 (by decide) (sw_out3 c1 c2 c3) ?_
        refine j_iconst (v := (0 : Int32)) C d_PI_mayPreset_80 (by decide) ?_
        exact j_iretz C (fun ρ h => leaf_eq h) (nz01 (Or.inl rfl)) d_PI_mayPreset_81
theorem c_PI_mayPreset {l : Launch} {D : va_G} {G : GC} {ad : Nat → Nat} (x0 : Int32) (x1 : Int32) (σ : Mem) : Ctr l D G ad ⟨"LineFrames$Picture", "mayPreset", "(II)Z"⟩ prog_8_method_3_code 2 (some .boolean) 0 0 [.int x0, .int x1] σ (.inl (some (.int (f_PI_mayPreset x0 x1 σ))), σ) := ctr_J (cv := (cvI σ)) (E := f_PI_mayPreset x0 x1 σ) (by decide +kernel) (Nat.le_of_ble_eq_true rfl) rfl (fun F h C => by subst h; exact w_PI_mayPreset C x0 x1 σ)
theorem z_PI_mayPreset (x0 : Int32) (x1 : Int32) (σ : Mem) : f_PI_mayPreset x0 x1 σ = 0 ∨ f_PI_mayPreset x0 x1 σ = 1 := by
  unfold f_PI_mayPreset
  try simp only [lt]
  repeat' split
  all_goals first | exact Or.inl rfl | exact Or.inr rfl
/-! LineFrames$StreamReader takePresets (II)I -/
theorem d_SR_takePresets_0 : decode prog_10_method_16_code 0 = .ok (.iload_n 2, 1) := by decide +kernel
theorem d_SR_takePresets_1 : decode prog_10_method_16_code 1 = .ok (.iconst 5, 1) := by decide +kernel
theorem d_SR_takePresets_2 : decode prog_10_method_16_code 2 = .ok (.if_icmp .eq 5, 3) := by decide +kernel
theorem d_SR_takePresets_5 : decode prog_10_method_16_code 5 = .ok (.iconst 3, 1) := by decide +kernel
theorem d_SR_takePresets_6 : decode prog_10_method_16_code 6 = .ok (.ireturn, 1) := by decide +kernel
theorem d_SR_takePresets_7 : decode prog_10_method_16_code 7 = .ok (.aload_n 0, 1) := by decide +kernel
theorem d_SR_takePresets_8 : decode prog_10_method_16_code 8 = .ok (.getfield 72, 3) := by decide +kernel
theorem d_SR_takePresets_11 : decode prog_10_method_16_code 11 = .ok (.iload_n 1, 1) := by decide +kernel
theorem d_SR_takePresets_12 : decode prog_10_method_16_code 12 = .ok (.iconst 5, 1) := by decide +kernel
theorem d_SR_takePresets_13 : decode prog_10_method_16_code 13 = .ok (.iadd, 1) := by decide +kernel
theorem d_SR_takePresets_14 : decode prog_10_method_16_code 14 = .ok (.invokevirtual 123, 3) := by decide +kernel
theorem d_SR_takePresets_17 : decode prog_10_method_16_code 17 = .ok (.istore_n 3, 1) := by decide +kernel
theorem d_SR_takePresets_18 : decode prog_10_method_16_code 18 = .ok (.aload_n 0, 1) := by decide +kernel
theorem d_SR_takePresets_19 : decode prog_10_method_16_code 19 = .ok (.getfield 72, 3) := by decide +kernel
theorem d_SR_takePresets_22 : decode prog_10_method_16_code 22 = .ok (.iload_n 1, 1) := by decide +kernel
theorem d_SR_takePresets_23 : decode prog_10_method_16_code 23 = .ok (.bipush 6, 2) := by decide +kernel
theorem d_SR_takePresets_25 : decode prog_10_method_16_code 25 = .ok (.iadd, 1) := by decide +kernel
theorem d_SR_takePresets_26 : decode prog_10_method_16_code 26 = .ok (.invokevirtual 123, 3) := by decide +kernel
theorem d_SR_takePresets_29 : decode prog_10_method_16_code 29 = .ok (.istore 4, 2) := by decide +kernel
theorem d_SR_takePresets_31 : decode prog_10_method_16_code 31 = .ok (.iconst 0, 1) := by decide +kernel
theorem d_SR_takePresets_32 : decode prog_10_method_16_code 32 = .ok (.iload_n 3, 1) := by decide +kernel
theorem d_SR_takePresets_33 : decode prog_10_method_16_code 33 = .ok (.invokestatic 194, 3) := by decide +kernel
theorem d_SR_takePresets_36 : decode prog_10_method_16_code 36 = .ok (.ifCond .eq 12, 3) := by decide +kernel
theorem d_SR_takePresets_39 : decode prog_10_method_16_code 39 = .ok (.iconst 1, 1) := by decide +kernel
theorem d_SR_takePresets_40 : decode prog_10_method_16_code 40 = .ok (.iload 4, 2) := by decide +kernel
theorem d_SR_takePresets_42 : decode prog_10_method_16_code 42 = .ok (.invokestatic 194, 3) := by decide +kernel
theorem d_SR_takePresets_45 : decode prog_10_method_16_code 45 = .ok (.ifCond .ne 5, 3) := by decide +kernel
theorem d_SR_takePresets_48 : decode prog_10_method_16_code 48 = .ok (.iconst 4, 1) := by decide +kernel
theorem d_SR_takePresets_49 : decode prog_10_method_16_code 49 = .ok (.ireturn, 1) := by decide +kernel
theorem d_SR_takePresets_50 : decode prog_10_method_16_code 50 = .ok (.aload_n 0, 1) := by decide +kernel
theorem d_SR_takePresets_51 : decode prog_10_method_16_code 51 = .ok (.getfield 12, 3) := by decide +kernel
theorem d_SR_takePresets_54 : decode prog_10_method_16_code 54 = .ok (.getfield 198, 3) := by decide +kernel
theorem d_SR_takePresets_57 : decode prog_10_method_16_code 57 = .ok (.iconst 0, 1) := by decide +kernel
theorem d_SR_takePresets_58 : decode prog_10_method_16_code 58 = .ok (.iload_n 3, 1) := by decide +kernel
theorem d_SR_takePresets_59 : decode prog_10_method_16_code 59 = .ok (.invokevirtual 201, 3) := by decide +kernel
theorem d_SR_takePresets_62 : decode prog_10_method_16_code 62 = .ok (.aload_n 0, 1) := by decide +kernel
theorem d_SR_takePresets_63 : decode prog_10_method_16_code 63 = .ok (.getfield 12, 3) := by decide +kernel
theorem d_SR_takePresets_66 : decode prog_10_method_16_code 66 = .ok (.getfield 198, 3) := by decide +kernel
theorem d_SR_takePresets_69 : decode prog_10_method_16_code 69 = .ok (.iconst 1, 1) := by decide +kernel
theorem d_SR_takePresets_70 : decode prog_10_method_16_code 70 = .ok (.iload 4, 2) := by decide +kernel
theorem d_SR_takePresets_72 : decode prog_10_method_16_code 72 = .ok (.invokevirtual 201, 3) := by decide +kernel
theorem d_SR_takePresets_75 : decode prog_10_method_16_code 75 = .ok (.iconst 0, 1) := by decide +kernel
theorem d_SR_takePresets_76 : decode prog_10_method_16_code 76 = .ok (.ireturn, 1) := by decide +kernel
def f_SR_takePresets (k0 : Nat) (x1 : Int32) (x2 : Int32) (σ : Mem) : Int32 × Mem :=
  if x2 = (5 : Int32) then
  lt (f_BY_get (wtg k0 0) (x1 + (5 : Int32)) σ) fun v2 =>
  lt (f_BY_get (wtg k0 0) (x1 + (6 : Int32)) σ) fun v3 =>
  if (f_PI_mayPreset (0 : Int32) v2 σ) = 0 then
  ((4 : Int32), σ)
  else
  if (f_PI_mayPreset (1 : Int32) v3 σ) = 0 then
  ((4 : Int32), σ)
  else
  lt (f_RO_set (wtg (wtg k0 1) 1) (0 : Int32) v2 σ) fun σ12 =>
  lt (f_RO_set (wtg (wtg k0 1) 1) (1 : Int32) v3 σ12) fun σ13 =>
  ((0 : Int32), σ13)
  else
  ((3 : Int32), σ)
set_option maxHeartbeats 4000000 in
set_option maxRecDepth 100000 in
theorem w_SR_takePresets {F : Fx} (C : Ctx F prog_10_method_16_code 5 "LineFrames$StreamReader" (some .int) 1 22) {k0 : Nat} (h0k : Is k0 9) (x1 : Int32) (x2 : Int32) (σ : Mem) : J F 5 cvIM (f_SR_takePresets k0 x1 x2 σ) σ 0 [(0, .ref (fad F k0)), (1, .int x1), (2, .int x2)] [] := by
  unfold f_SR_takePresets
  refine j_iload_n C d_SR_takePresets_0 2 rfl ?_
  refine j_iconst (v := (5 : Int32)) C d_SR_takePresets_1 (by decide) ?_
  refine j_icmp_eq (tgt := 7) C d_SR_takePresets_2 (by decide) (fun c1 => ?_) (fun c1 => ?_)
  · refine j_aload_n C d_SR_takePresets_7 0 rfl ?_
    refine j_getR C h0k fl_SR_72 rfl d_SR_takePresets_8 ?_
    refine j_iload_n C d_SR_takePresets_11 1 rfl ?_
    refine j_iconst (v := (5 : Int32)) C d_SR_takePresets_12 (by decide) ?_
    refine j_iadd C d_SR_takePresets_13 ?_
    refine j_callVi C mv_SR_123 [.int (x1 + (5 : Int32))] [] (tg_9_0 _ h0k) (c_BY_get (tg_9_0 _ h0k) (x1 + (5 : Int32)) σ) rfl rfl (by decide) (Nat.le_of_ble_eq_true rfl) d_SR_takePresets_14 ?_
    refine j_nm (fun v2 v2_e => ?_)
    refine j_istore_n (lv9 := [(0, .ref (fad F k0)), (1, .int x1), (2, .int x2), (3, .int v2)]) C d_SR_takePresets_17 rfl rfl (by decide) ?_
    refine j_aload_n C d_SR_takePresets_18 0 rfl ?_
    refine j_getR C h0k fl_SR_72 rfl d_SR_takePresets_19 ?_
    refine j_iload_n C d_SR_takePresets_22 1 rfl ?_
    refine j_bipush (v := (6 : Int32)) C d_SR_takePresets_23 (by decide) ?_
    refine j_iadd C d_SR_takePresets_25 ?_
    refine j_callVi C mv_SR_123 [.int (x1 + (6 : Int32))] [] (tg_9_0 _ h0k) (c_BY_get (tg_9_0 _ h0k) (x1 + (6 : Int32)) σ) rfl rfl (by decide) (Nat.le_of_ble_eq_true rfl) d_SR_takePresets_26 ?_
    refine j_nm (fun v3 v3_e => ?_)
    refine j_istore (lv9 := [(0, .ref (fad F k0)), (1, .int x1), (2, .int x2), (3, .int v2), (4, .int v3)]) C d_SR_takePresets_29 rfl rfl (by decide) ?_
    refine j_iconst (v := (0 : Int32)) C d_SR_takePresets_31 (by decide) ?_
    refine j_iload_n C d_SR_takePresets_32 3 rfl ?_
    refine j_callSi C ms_SR_194 [.int (0 : Int32), .int v2] [] (c_PI_mayPreset (0 : Int32) v2 σ) rfl rfl (by decide) (Nat.le_of_ble_eq_true rfl) d_SR_takePresets_33 ?_
    refine j_if_eq (tgt := 48) C d_SR_takePresets_36 (by decide) (fun c10 => ?_) (fun c10 => ?_)
    · refine j_iconst (v := (4 : Int32)) C d_SR_takePresets_48 (by decide) ?_
      exact j_ireti C (fun ρ h => leaf_eq h) d_SR_takePresets_49
    · refine j_iconst (v := (1 : Int32)) C d_SR_takePresets_39 (by decide) ?_
      refine j_iload C d_SR_takePresets_40 4 rfl ?_
      refine j_callSi C ms_SR_194 [.int (1 : Int32), .int v3] [] (c_PI_mayPreset (1 : Int32) v3 σ) rfl rfl (by decide) (Nat.le_of_ble_eq_true rfl) d_SR_takePresets_42 ?_
      refine j_if_ne (tgt := 50) C d_SR_takePresets_45 (by decide) (fun c11 => ?_) (fun c11 => ?_)
      · refine j_aload_n C d_SR_takePresets_50 0 rfl ?_
        refine j_getR C h0k fl_SR_12 rfl d_SR_takePresets_51 ?_
        refine j_getR C (tg_9_1 _ h0k) fl_SR_198 rfl d_SR_takePresets_54 ?_
        refine j_iconst (v := (0 : Int32)) C d_SR_takePresets_57 (by decide) ?_
        refine j_iload_n C d_SR_takePresets_58 3 rfl ?_
        refine j_callVv C mv_SR_201 [.int (0 : Int32), .int v2] [] (tg_7_1 _ (tg_9_1 _ h0k)) (c_RO_set (tg_7_1 _ (tg_9_1 _ h0k)) (0 : Int32) v2 σ) rfl rfl (by decide) (Nat.le_of_ble_eq_true rfl) d_SR_takePresets_59 ?_
        refine j_genM (fun σ12 => ?_)
        refine j_aload_n C d_SR_takePresets_62 0 rfl ?_
        refine j_getR C h0k fl_SR_12 rfl d_SR_takePresets_63 ?_
        refine j_getR C (tg_9_1 _ h0k) fl_SR_198 rfl d_SR_takePresets_66 ?_
        refine j_iconst (v := (1 : Int32)) C d_SR_takePresets_69 (by decide) ?_
        refine j_iload C d_SR_takePresets_70 4 rfl ?_
        refine j_callVv C mv_SR_201 [.int (1 : Int32), .int v3] [] (tg_7_1 _ (tg_9_1 _ h0k)) (c_RO_set (tg_7_1 _ (tg_9_1 _ h0k)) (1 : Int32) v3 σ12) rfl rfl (by decide) (Nat.le_of_ble_eq_true rfl) d_SR_takePresets_72 ?_
        refine j_genM (fun σ13 => ?_)
        refine j_iconst (v := (0 : Int32)) C d_SR_takePresets_75 (by decide) ?_
        exact j_ireti C (fun ρ h => leaf_eq h) d_SR_takePresets_76
      · refine j_iconst (v := (4 : Int32)) C d_SR_takePresets_48 (by decide) ?_
        exact j_ireti C (fun ρ h => leaf_eq h) d_SR_takePresets_49
  · refine j_iconst (v := (3 : Int32)) C d_SR_takePresets_5 (by decide) ?_
    exact j_ireti C (fun ρ h => leaf_eq h) d_SR_takePresets_6
theorem c_SR_takePresets {l : Launch} {D : va_G} {G : GC} {ad : Nat → Nat} {k0 : Nat} (h0k : Is k0 9) (x1 : Int32) (x2 : Int32) (σ : Mem) : Ctr l D G ad ⟨"LineFrames$StreamReader", "takePresets", "(II)I"⟩ prog_10_method_16_code 5 (some .int) 1 22 [.ref (ad k0), .int x1, .int x2] σ (.inl (some (.int (f_SR_takePresets k0 x1 x2 σ).1)), (f_SR_takePresets k0 x1 x2 σ).2) := ctr_J (cv := cvIM) (E := f_SR_takePresets k0 x1 x2 σ) (by decide +kernel) (Nat.le_of_ble_eq_true rfl) rfl (fun F h C => by subst h; exact w_SR_takePresets C h0k x1 x2 σ)
/-! LineFrames$Picture top ()I -/
theorem d_PI_top_0 : decode prog_8_method_6_code 0 = .ok (.iconst 1, 1) := by decide +kernel
theorem d_PI_top_1 : decode prog_8_method_6_code 1 = .ok (.aload_n 0, 1) := by decide +kernel
theorem d_PI_top_2 : decode prog_8_method_6_code 2 = .ok (.getfield 43, 3) := by decide +kernel
theorem d_PI_top_5 : decode prog_8_method_6_code 5 = .ok (.ishl, 1) := by decide +kernel
theorem d_PI_top_6 : decode prog_8_method_6_code 6 = .ok (.iconst 1, 1) := by decide +kernel
theorem d_PI_top_7 : decode prog_8_method_6_code 7 = .ok (.isub, 1) := by decide +kernel
theorem d_PI_top_8 : decode prog_8_method_6_code 8 = .ok (.ireturn, 1) := by decide +kernel
def f_PI_top (k0 : Nat) (σ : Mem) : Int32 :=
  (((1 : Int32) <<< ((σ k0 7) &&& 31)) - (1 : Int32))
set_option maxHeartbeats 4000000 in
set_option maxRecDepth 100000 in
theorem w_PI_top {F : Fx} (C : Ctx F prog_8_method_6_code 1 "LineFrames$Picture" (some .int) 0 0) {k0 : Nat} (h0k : Is k0 7) (σ : Mem) : J F 1 (cvI σ) (f_PI_top k0 σ) σ 0 [(0, .ref (fad F k0))] [] := by
  unfold f_PI_top
  refine j_iconst (v := (1 : Int32)) C d_PI_top_0 (by decide) ?_
  refine j_aload_n C d_PI_top_1 0 rfl ?_
  refine j_getI C h0k fl_PI_43 rfl d_PI_top_2 ?_
  refine j_ishl C d_PI_top_5 ?_
  refine j_iconst (v := (1 : Int32)) C d_PI_top_6 (by decide) ?_
  refine j_isub C d_PI_top_7 ?_
  exact j_ireti C (fun ρ h => leaf_eq h) d_PI_top_8
theorem c_PI_top {l : Launch} {D : va_G} {G : GC} {ad : Nat → Nat} {k0 : Nat} (h0k : Is k0 7) (σ : Mem) : Ctr l D G ad ⟨"LineFrames$Picture", "top", "()I"⟩ prog_8_method_6_code 1 (some .int) 0 0 [.ref (ad k0)] σ (.inl (some (.int (f_PI_top k0 σ))), σ) := ctr_J (cv := (cvI σ)) (E := f_PI_top k0 σ) (by decide +kernel) (Nat.le_of_ble_eq_true rfl) rfl (fun F h C => by subst h; exact w_PI_top C h0k σ)
/-! LineFrames$Picture hasComponent (I)Z -/
theorem d_PI_hasComponent_0 : decode prog_8_method_8_code 0 = .ok (.iload_n 1, 1) := by decide +kernel
theorem d_PI_hasComponent_1 : decode prog_8_method_8_code 1 = .ok (.ifCond .lt 15, 3) := by decide +kernel
theorem d_PI_hasComponent_4 : decode prog_8_method_8_code 4 = .ok (.iload_n 1, 1) := by decide +kernel
theorem d_PI_hasComponent_5 : decode prog_8_method_8_code 5 = .ok (.aload_n 0, 1) := by decide +kernel
theorem d_PI_hasComponent_6 : decode prog_8_method_8_code 6 = .ok (.getfield 46, 3) := by decide +kernel
theorem d_PI_hasComponent_9 : decode prog_8_method_8_code 9 = .ok (.if_icmp .ge 7, 3) := by decide +kernel
theorem d_PI_hasComponent_12 : decode prog_8_method_8_code 12 = .ok (.iconst 1, 1) := by decide +kernel
theorem d_PI_hasComponent_13 : decode prog_8_method_8_code 13 = .ok (.goto 4, 3) := by decide +kernel
theorem d_PI_hasComponent_16 : decode prog_8_method_8_code 16 = .ok (.iconst 0, 1) := by decide +kernel
theorem d_PI_hasComponent_17 : decode prog_8_method_8_code 17 = .ok (.ireturn, 1) := by decide +kernel
def f_PI_hasComponent (k0 : Nat) (x1 : Int32) (σ : Mem) : Int32 :=
  (if x1 < 0 then (0 : Int32) else (if (σ k0 8) ≤ x1 then (0 : Int32) else (1 : Int32)))
set_option maxHeartbeats 4000000 in
set_option maxRecDepth 100000 in
theorem w_PI_hasComponent {F : Fx} (C : Ctx F prog_8_method_8_code 2 "LineFrames$Picture" (some .boolean) 0 0) {k0 : Nat} (h0k : Is k0 7) (x1 : Int32) (σ : Mem) : J F 2 (cvI σ) (f_PI_hasComponent k0 x1 σ) σ 0 [(0, .ref (fad F k0)), (1, .int x1)] [] := by
  unfold f_PI_hasComponent
  refine j_iload_n C d_PI_hasComponent_0 1 rfl ?_
  refine d_if_lt (a := (0 : Int32)) (b := (if (σ k0 8) ≤ x1 then (0 : Int32) else (1 : Int32))) (jp := 17) (tgt := 16) C d_PI_hasComponent_1 (by decide) (fun c3 k4 => ?_) (fun c3 k4 => ?_) ?_
  · refine j_iconst (v := (0 : Int32)) C d_PI_hasComponent_16 (by decide) ?_
    exact k4
  · refine j_iload_n C d_PI_hasComponent_4 1 rfl ?_
    refine j_aload_n C d_PI_hasComponent_5 0 rfl ?_
    refine j_getI C h0k fl_PI_46 rfl d_PI_hasComponent_6 ?_
    refine d_icmp_ge (a := (0 : Int32)) (b := (1 : Int32)) (jp := 17) (tgt := 16) C d_PI_hasComponent_9 (by decide) (fun c5 k6 => ?_) (fun c5 k6 => ?_) ?_
    · refine j_iconst (v := (0 : Int32)) C d_PI_hasComponent_16 (by decide) ?_
      exact k6
    · refine j_iconst (v := (1 : Int32)) C d_PI_hasComponent_12 (by decide) ?_
      refine j_goto (tgt := 17) C d_PI_hasComponent_13 (by decide) ?_
      exact k6
    exact k4
  exact j_iretz C (fun ρ h => leaf_eq h) (nz01 (ite01 (Or.inl rfl) (ite01 (Or.inl rfl) (Or.inr rfl)))) d_PI_hasComponent_17
theorem c_PI_hasComponent {l : Launch} {D : va_G} {G : GC} {ad : Nat → Nat} {k0 : Nat} (h0k : Is k0 7) (x1 : Int32) (σ : Mem) : Ctr l D G ad ⟨"LineFrames$Picture", "hasComponent", "(I)Z"⟩ prog_8_method_8_code 2 (some .boolean) 0 0 [.ref (ad k0), .int x1] σ (.inl (some (.int (f_PI_hasComponent k0 x1 σ))), σ) := ctr_J (cv := (cvI σ)) (E := f_PI_hasComponent k0 x1 σ) (by decide +kernel) (Nat.le_of_ble_eq_true rfl) rfl (fun F h C => by subst h; exact w_PI_hasComponent C h0k x1 σ)
theorem z_PI_hasComponent (k0 : Nat) (x1 : Int32) (σ : Mem) : f_PI_hasComponent k0 x1 σ = 0 ∨ f_PI_hasComponent k0 x1 σ = 1 := by
  unfold f_PI_hasComponent
  try simp only [lt]
  repeat' split
  all_goals first | exact Or.inl rfl | exact Or.inr rfl
/-! LineFrames$Picture hasTable (I)Z -/
theorem d_PI_hasTable_0 : decode prog_8_method_10_code 0 = .ok (.aload_n 0, 1) := by decide +kernel
theorem d_PI_hasTable_1 : decode prog_8_method_10_code 1 = .ok (.getfield 23, 3) := by decide +kernel
theorem d_PI_hasTable_4 : decode prog_8_method_10_code 4 = .ok (.iload_n 1, 1) := by decide +kernel
theorem d_PI_hasTable_5 : decode prog_8_method_10_code 5 = .ok (.invokevirtual 71, 3) := by decide +kernel
theorem d_PI_hasTable_8 : decode prog_8_method_10_code 8 = .ok (.ifCond .eq 7, 3) := by decide +kernel
theorem d_PI_hasTable_11 : decode prog_8_method_10_code 11 = .ok (.iconst 1, 1) := by decide +kernel
theorem d_PI_hasTable_12 : decode prog_8_method_10_code 12 = .ok (.goto 4, 3) := by decide +kernel
theorem d_PI_hasTable_15 : decode prog_8_method_10_code 15 = .ok (.iconst 0, 1) := by decide +kernel
theorem d_PI_hasTable_16 : decode prog_8_method_10_code 16 = .ok (.ireturn, 1) := by decide +kernel
def f_PI_hasTable (k0 : Nat) (x1 : Int32) (σ : Mem) : Int32 :=
  (if (f_RO_get (wtg k0 2) x1 σ) = 0 then (0 : Int32) else (1 : Int32))
set_option maxHeartbeats 4000000 in
set_option maxRecDepth 100000 in
theorem w_PI_hasTable {F : Fx} (C : Ctx F prog_8_method_10_code 2 "LineFrames$Picture" (some .boolean) 1 21) {k0 : Nat} (h0k : Is k0 7) (x1 : Int32) (σ : Mem) : J F 2 (cvI σ) (f_PI_hasTable k0 x1 σ) σ 0 [(0, .ref (fad F k0)), (1, .int x1)] [] := by
  unfold f_PI_hasTable
  refine j_aload_n C d_PI_hasTable_0 0 rfl ?_
  refine j_getR C h0k fl_PI_23 rfl d_PI_hasTable_1 ?_
  refine j_iload_n C d_PI_hasTable_4 1 rfl ?_
  refine j_callVi C mv_PI_71 [.int x1] [] (tg_7_2 _ h0k) (c_RO_get (tg_7_2 _ h0k) x1 σ) rfl rfl (by decide) (Nat.le_of_ble_eq_true rfl) d_PI_hasTable_5 ?_
  refine d_if_eq (a := (0 : Int32)) (b := (1 : Int32)) (jp := 16) (tgt := 15) C d_PI_hasTable_8 (by decide) (fun c1 k2 => ?_) (fun c1 k2 => ?_) ?_
  · refine j_iconst (v := (0 : Int32)) C d_PI_hasTable_15 (by decide) ?_
    exact k2
  · refine j_iconst (v := (1 : Int32)) C d_PI_hasTable_11 (by decide) ?_
    refine j_goto (tgt := 16) C d_PI_hasTable_12 (by decide) ?_
    exact k2
  exact j_iretz C (fun ρ h => leaf_eq h) (nz01 (ite01 (Or.inl rfl) (Or.inr rfl))) d_PI_hasTable_16
theorem c_PI_hasTable {l : Launch} {D : va_G} {G : GC} {ad : Nat → Nat} {k0 : Nat} (h0k : Is k0 7) (x1 : Int32) (σ : Mem) : Ctr l D G ad ⟨"LineFrames$Picture", "hasTable", "(I)Z"⟩ prog_8_method_10_code 2 (some .boolean) 1 21 [.ref (ad k0), .int x1] σ (.inl (some (.int (f_PI_hasTable k0 x1 σ))), σ) := ctr_J (cv := (cvI σ)) (E := f_PI_hasTable k0 x1 σ) (by decide +kernel) (Nat.le_of_ble_eq_true rfl) rfl (fun F h C => by subst h; exact w_PI_hasTable C h0k x1 σ)
theorem z_PI_hasTable (k0 : Nat) (x1 : Int32) (σ : Mem) : f_PI_hasTable k0 x1 σ = 0 ∨ f_PI_hasTable k0 x1 σ = 1 := by
  unfold f_PI_hasTable
  try simp only [lt]
  repeat' split
  all_goals first | exact Or.inl rfl | exact Or.inr rfl
/-! LineFrames$Picture openTable (I)V -/
theorem d_PI_openTable_0 : decode prog_8_method_11_code 0 = .ok (.aload_n 0, 1) := by decide +kernel
theorem d_PI_openTable_1 : decode prog_8_method_11_code 1 = .ok (.getfield 23, 3) := by decide +kernel
theorem d_PI_openTable_4 : decode prog_8_method_11_code 4 = .ok (.iload_n 1, 1) := by decide +kernel
theorem d_PI_openTable_5 : decode prog_8_method_11_code 5 = .ok (.iconst 1, 1) := by decide +kernel
theorem d_PI_openTable_6 : decode prog_8_method_11_code 6 = .ok (.invokevirtual 59, 3) := by decide +kernel
theorem d_PI_openTable_9 : decode prog_8_method_11_code 9 = .ok (.iconst 0, 1) := by decide +kernel
theorem d_PI_openTable_10 : decode prog_8_method_11_code 10 = .ok (.istore_n 2, 1) := by decide +kernel
theorem d_PI_openTable_11 : decode prog_8_method_11_code 11 = .ok (.iload_n 2, 1) := by decide +kernel
theorem d_PI_openTable_12 : decode prog_8_method_11_code 12 = .ok (.sipush 256, 3) := by decide +kernel
theorem d_PI_openTable_15 : decode prog_8_method_11_code 15 = .ok (.if_icmp .ge 24, 3) := by decide +kernel
theorem d_PI_openTable_18 : decode prog_8_method_11_code 18 = .ok (.aload_n 0, 1) := by decide +kernel
theorem d_PI_openTable_19 : decode prog_8_method_11_code 19 = .ok (.getfield 26, 3) := by decide +kernel
theorem d_PI_openTable_22 : decode prog_8_method_11_code 22 = .ok (.iload_n 1, 1) := by decide +kernel
theorem d_PI_openTable_23 : decode prog_8_method_11_code 23 = .ok (.sipush 256, 3) := by decide +kernel
theorem d_PI_openTable_26 : decode prog_8_method_11_code 26 = .ok (.imul, 1) := by decide +kernel
theorem d_PI_openTable_27 : decode prog_8_method_11_code 27 = .ok (.iload_n 2, 1) := by decide +kernel
theorem d_PI_openTable_28 : decode prog_8_method_11_code 28 = .ok (.iadd, 1) := by decide +kernel
theorem d_PI_openTable_29 : decode prog_8_method_11_code 29 = .ok (.iconst 0, 1) := by decide +kernel
theorem d_PI_openTable_30 : decode prog_8_method_11_code 30 = .ok (.invokevirtual 59, 3) := by decide +kernel
theorem d_PI_openTable_33 : decode prog_8_method_11_code 33 = .ok (.iinc 2 1, 3) := by decide +kernel
theorem d_PI_openTable_36 : decode prog_8_method_11_code 36 = .ok (.goto (-25), 3) := by decide +kernel
theorem d_PI_openTable_39 : decode prog_8_method_11_code 39 = .ok (.return_, 1) := by decide +kernel
def L_PI_openTable_11 (r0 : Nat) (b1 : Int32) : Nat → Int32 → Mem →  Option (Int32 × Mem)
  | 0, _, _ => none
  | n + 1, a2, σ =>
  if (256 : Int32) ≤ a2 then
  some (a2, σ)
  else
  lt (f_RO_set (wtg r0 3) ((b1 * (256 : Int32)) + a2) (0 : Int32) σ) fun σ3 =>
  L_PI_openTable_11 r0 b1 n (a2 + (1 : Int32)) σ3
def f_PI_openTable (k0 : Nat) (x1 : Int32) (σ : Mem) : Option (Mem) :=
  lt (f_RO_set (wtg k0 2) x1 (1 : Int32) σ) fun σ1 =>
  (L_PI_openTable_11 k0 x1 9999 (0 : Int32) σ1).bind fun q4 =>
  some (q4.2)
set_option maxHeartbeats 4000000 in
set_option maxRecDepth 100000 in
theorem wL_PI_openTable_11 {F : Fx} (C : Ctx F prog_8_method_11_code 3 "LineFrames$Picture" none 1 22) {cv : Option (Int32 × Mem) → Option Rs} (h0 : cv none = none) (r0 : Nat) (hr0 : Is r0 7) (b1 : Int32) (hex : ∀ q : Int32 × Mem, J F 3 cv (some q) q.2 39 [(0, .ref (fad F r0)), (1, .int b1), (2, .int q.1)] []) : ∀ (n : Nat) (a2 : Int32) (σ : Mem), J F 3 cv (L_PI_openTable_11 r0 b1 n a2 σ) σ 11 [(0, .ref (fad F r0)), (1, .int b1), (2, .int a2)] [] := by
  intro n
  induction n with
  | zero => intro a2 σ hE; rw [L_PI_openTable_11, h0] at hE; cases hE
  | succ n ih =>
    intro a2 σ
    rw [L_PI_openTable_11]
    refine j_iload_n C d_PI_openTable_11 2 rfl ?_
    refine j_sipush (v := (256 : Int32)) C d_PI_openTable_12 (by decide) ?_
    refine j_icmp_ge (tgt := 39) C d_PI_openTable_15 (by decide) (fun c2 => ?_) (fun c2 => ?_)
    · exact hex (a2, σ)
    · refine j_aload_n C d_PI_openTable_18 0 rfl ?_
      refine j_getR C hr0 fl_PI_26 rfl d_PI_openTable_19 ?_
      refine j_iload_n C d_PI_openTable_22 1 rfl ?_
      refine j_sipush (v := (256 : Int32)) C d_PI_openTable_23 (by decide) ?_
      refine j_imul C d_PI_openTable_26 ?_
      refine j_iload_n C d_PI_openTable_27 2 rfl ?_
      refine j_iadd C d_PI_openTable_28 ?_
      refine j_iconst (v := (0 : Int32)) C d_PI_openTable_29 (by decide) ?_
      refine j_callVv C mv_PI_59 [.int ((b1 * (256 : Int32)) + a2), .int (0 : Int32)] [] (tg_7_3 _ hr0) (c_RO_set (tg_7_3 _ hr0) ((b1 * (256 : Int32)) + a2) (0 : Int32) σ) rfl rfl (by decide) (Nat.le_of_ble_eq_true rfl) d_PI_openTable_30 ?_
      refine j_genM (fun σ3 => ?_)
      refine j_iinc (v := (a2 + (1 : Int32))) (lv9 := [(0, .ref (fad F r0)), (1, .int b1), (2, .int (a2 + (1 : Int32)))]) C d_PI_openTable_33 2 rfl rfl rfl rfl (by decide) ?_
      refine j_goto (tgt := 11) C d_PI_openTable_36 (by decide) ?_
      exact ih (a2 + (1 : Int32)) σ3
set_option maxHeartbeats 4000000 in
set_option maxRecDepth 100000 in
theorem w_PI_openTable {F : Fx} (C : Ctx F prog_8_method_11_code 3 "LineFrames$Picture" none 1 22) {k0 : Nat} (h0k : Is k0 7) (x1 : Int32) (σ : Mem) : J F 3 (cvO cvM) (f_PI_openTable k0 x1 σ) σ 0 [(0, .ref (fad F k0)), (1, .int x1)] [] := by
  unfold f_PI_openTable
  refine j_aload_n C d_PI_openTable_0 0 rfl ?_
  refine j_getR C h0k fl_PI_23 rfl d_PI_openTable_1 ?_
  refine j_iload_n C d_PI_openTable_4 1 rfl ?_
  refine j_iconst (v := (1 : Int32)) C d_PI_openTable_5 (by decide) ?_
  refine j_callVv C mv_PI_59 [.int x1, .int (1 : Int32)] [] (tg_7_2 _ h0k) (c_RO_set (tg_7_2 _ h0k) x1 (1 : Int32) σ) rfl rfl (by decide) (Nat.le_of_ble_eq_true rfl) d_PI_openTable_6 ?_
  refine j_genM (fun σ1 => ?_)
  refine j_iconst (v := (0 : Int32)) C d_PI_openTable_9 (by decide) ?_
  refine j_istore_n (lv9 := [(0, .ref (fad F k0)), (1, .int x1), (2, .int (0 : Int32))]) C d_PI_openTable_10 rfl rfl (by decide) ?_
  refine j_loop (wL_PI_openTable_11 C rfl k0 h0k x1 (fun q4 => j_some ?_) 9999 (0 : Int32) σ1)
  exact j_vret C (fun ρ h => leaf_eq h) d_PI_openTable_39
theorem c_PI_openTable {l : Launch} {D : va_G} {G : GC} {ad : Nat → Nat} {k0 : Nat} (h0k : Is k0 7) (x1 : Int32) (σ : Mem) {q : Mem} (hq : f_PI_openTable k0 x1 σ = some q) : Ctr l D G ad ⟨"LineFrames$Picture", "openTable", "(I)V"⟩ prog_8_method_11_code 3 none 1 22 [.ref (ad k0), .int x1] σ (.inl none, q) := ctr_J (cv := (cvO cvM)) (E := f_PI_openTable k0 x1 σ) (by decide +kernel) (Nat.le_of_ble_eq_true rfl) (by rw [hq]; rfl) (fun F h C => by subst h; exact w_PI_openTable C h0k x1 σ)
/-! LineFrames$Picture setNumber (III)V -/
theorem d_PI_setNumber_0 : decode prog_8_method_13_code 0 = .ok (.aload_n 0, 1) := by decide +kernel
theorem d_PI_setNumber_1 : decode prog_8_method_13_code 1 = .ok (.getfield 26, 3) := by decide +kernel
theorem d_PI_setNumber_4 : decode prog_8_method_13_code 4 = .ok (.iload_n 1, 1) := by decide +kernel
theorem d_PI_setNumber_5 : decode prog_8_method_13_code 5 = .ok (.sipush 256, 3) := by decide +kernel
theorem d_PI_setNumber_8 : decode prog_8_method_13_code 8 = .ok (.imul, 1) := by decide +kernel
theorem d_PI_setNumber_9 : decode prog_8_method_13_code 9 = .ok (.iload_n 2, 1) := by decide +kernel
theorem d_PI_setNumber_10 : decode prog_8_method_13_code 10 = .ok (.iadd, 1) := by decide +kernel
theorem d_PI_setNumber_11 : decode prog_8_method_13_code 11 = .ok (.iload_n 3, 1) := by decide +kernel
theorem d_PI_setNumber_12 : decode prog_8_method_13_code 12 = .ok (.invokevirtual 59, 3) := by decide +kernel
theorem d_PI_setNumber_15 : decode prog_8_method_13_code 15 = .ok (.return_, 1) := by decide +kernel
def f_PI_setNumber (k0 : Nat) (x1 : Int32) (x2 : Int32) (x3 : Int32) (σ : Mem) : Mem :=
  lt (f_RO_set (wtg k0 3) ((x1 * (256 : Int32)) + x2) x3 σ) fun σ1 =>
  σ1
set_option maxHeartbeats 4000000 in
set_option maxRecDepth 100000 in
theorem w_PI_setNumber {F : Fx} (C : Ctx F prog_8_method_13_code 4 "LineFrames$Picture" none 1 22) {k0 : Nat} (h0k : Is k0 7) (x1 : Int32) (x2 : Int32) (x3 : Int32) (σ : Mem) : J F 4 cvM (f_PI_setNumber k0 x1 x2 x3 σ) σ 0 [(0, .ref (fad F k0)), (1, .int x1), (2, .int x2), (3, .int x3)] [] := by
  unfold f_PI_setNumber
  refine j_aload_n C d_PI_setNumber_0 0 rfl ?_
  refine j_getR C h0k fl_PI_26 rfl d_PI_setNumber_1 ?_
  refine j_iload_n C d_PI_setNumber_4 1 rfl ?_
  refine j_sipush (v := (256 : Int32)) C d_PI_setNumber_5 (by decide) ?_
  refine j_imul C d_PI_setNumber_8 ?_
  refine j_iload_n C d_PI_setNumber_9 2 rfl ?_
  refine j_iadd C d_PI_setNumber_10 ?_
  refine j_iload_n C d_PI_setNumber_11 3 rfl ?_
  refine j_callVv C mv_PI_59 [.int ((x1 * (256 : Int32)) + x2), .int x3] [] (tg_7_3 _ h0k) (c_RO_set (tg_7_3 _ h0k) ((x1 * (256 : Int32)) + x2) x3 σ) rfl rfl (by decide) (Nat.le_of_ble_eq_true rfl) d_PI_setNumber_12 ?_
  refine j_genM (fun σ1 => ?_)
  exact j_vret C (fun ρ h => leaf_eq h) d_PI_setNumber_15
theorem c_PI_setNumber {l : Launch} {D : va_G} {G : GC} {ad : Nat → Nat} {k0 : Nat} (h0k : Is k0 7) (x1 : Int32) (x2 : Int32) (x3 : Int32) (σ : Mem) : Ctr l D G ad ⟨"LineFrames$Picture", "setNumber", "(III)V"⟩ prog_8_method_13_code 4 none 1 22 [.ref (ad k0), .int x1, .int x2, .int x3] σ (.inl none, (f_PI_setNumber k0 x1 x2 x3 σ)) := ctr_J (cv := cvM) (E := f_PI_setNumber k0 x1 x2 x3 σ) (by decide +kernel) (Nat.le_of_ble_eq_true rfl) rfl (fun F h C => by subst h; exact w_PI_setNumber C h0k x1 x2 x3 σ)
/-! LineFrames$StreamReader takeTable (II)I -/
theorem d_SR_takeTable_0 : decode prog_10_method_17_code 0 = .ok (.aload_n 0, 1) := by decide +kernel
theorem d_SR_takeTable_1 : decode prog_10_method_17_code 1 = .ok (.getfield 12, 3) := by decide +kernel
theorem d_SR_takeTable_4 : decode prog_10_method_17_code 4 = .ok (.invokevirtual 204, 3) := by decide +kernel
theorem d_SR_takeTable_7 : decode prog_10_method_17_code 7 = .ok (.iconst 1, 1) := by decide +kernel
theorem d_SR_takeTable_8 : decode prog_10_method_17_code 8 = .ok (.iadd, 1) := by decide +kernel
theorem d_SR_takeTable_9 : decode prog_10_method_17_code 9 = .ok (.istore_n 3, 1) := by decide +kernel
theorem d_SR_takeTable_10 : decode prog_10_method_17_code 10 = .ok (.iload_n 2, 1) := by decide +kernel
theorem d_SR_takeTable_11 : decode prog_10_method_17_code 11 = .ok (.iconst 5, 1) := by decide +kernel
theorem d_SR_takeTable_12 : decode prog_10_method_17_code 12 = .ok (.iconst 2, 1) := by decide +kernel
theorem d_SR_takeTable_13 : decode prog_10_method_17_code 13 = .ok (.iload_n 3, 1) := by decide +kernel
theorem d_SR_takeTable_14 : decode prog_10_method_17_code 14 = .ok (.imul, 1) := by decide +kernel
theorem d_SR_takeTable_15 : decode prog_10_method_17_code 15 = .ok (.iadd, 1) := by decide +kernel
theorem d_SR_takeTable_16 : decode prog_10_method_17_code 16 = .ok (.if_icmp .eq 5, 3) := by decide +kernel
theorem d_SR_takeTable_19 : decode prog_10_method_17_code 19 = .ok (.iconst 3, 1) := by decide +kernel
theorem d_SR_takeTable_20 : decode prog_10_method_17_code 20 = .ok (.ireturn, 1) := by decide +kernel
theorem d_SR_takeTable_21 : decode prog_10_method_17_code 21 = .ok (.aload_n 0, 1) := by decide +kernel
theorem d_SR_takeTable_22 : decode prog_10_method_17_code 22 = .ok (.getfield 72, 3) := by decide +kernel
theorem d_SR_takeTable_25 : decode prog_10_method_17_code 25 = .ok (.iload_n 1, 1) := by decide +kernel
theorem d_SR_takeTable_26 : decode prog_10_method_17_code 26 = .ok (.iconst 5, 1) := by decide +kernel
theorem d_SR_takeTable_27 : decode prog_10_method_17_code 27 = .ok (.iadd, 1) := by decide +kernel
theorem d_SR_takeTable_28 : decode prog_10_method_17_code 28 = .ok (.invokevirtual 123, 3) := by decide +kernel
theorem d_SR_takeTable_31 : decode prog_10_method_17_code 31 = .ok (.iconst 1, 1) := by decide +kernel
theorem d_SR_takeTable_32 : decode prog_10_method_17_code 32 = .ok (.isub, 1) := by decide +kernel
theorem d_SR_takeTable_33 : decode prog_10_method_17_code 33 = .ok (.istore 4, 2) := by decide +kernel
theorem d_SR_takeTable_35 : decode prog_10_method_17_code 35 = .ok (.aload_n 0, 1) := by decide +kernel
theorem d_SR_takeTable_36 : decode prog_10_method_17_code 36 = .ok (.getfield 12, 3) := by decide +kernel
theorem d_SR_takeTable_39 : decode prog_10_method_17_code 39 = .ok (.iload 4, 2) := by decide +kernel
theorem d_SR_takeTable_41 : decode prog_10_method_17_code 41 = .ok (.invokevirtual 207, 3) := by decide +kernel
theorem d_SR_takeTable_44 : decode prog_10_method_17_code 44 = .ok (.ifCond .ne 6, 3) := by decide +kernel
theorem d_SR_takeTable_47 : decode prog_10_method_17_code 47 = .ok (.bipush 6, 2) := by decide +kernel
theorem d_SR_takeTable_49 : decode prog_10_method_17_code 49 = .ok (.ireturn, 1) := by decide +kernel
theorem d_SR_takeTable_50 : decode prog_10_method_17_code 50 = .ok (.aload_n 0, 1) := by decide +kernel
theorem d_SR_takeTable_51 : decode prog_10_method_17_code 51 = .ok (.getfield 12, 3) := by decide +kernel
theorem d_SR_takeTable_54 : decode prog_10_method_17_code 54 = .ok (.iload 4, 2) := by decide +kernel
theorem d_SR_takeTable_56 : decode prog_10_method_17_code 56 = .ok (.invokevirtual 210, 3) := by decide +kernel
theorem d_SR_takeTable_59 : decode prog_10_method_17_code 59 = .ok (.ifCond .eq 5, 3) := by decide +kernel
theorem d_SR_takeTable_62 : decode prog_10_method_17_code 62 = .ok (.iconst 5, 1) := by decide +kernel
theorem d_SR_takeTable_63 : decode prog_10_method_17_code 63 = .ok (.ireturn, 1) := by decide +kernel
theorem d_SR_takeTable_64 : decode prog_10_method_17_code 64 = .ok (.aload_n 0, 1) := by decide +kernel
theorem d_SR_takeTable_65 : decode prog_10_method_17_code 65 = .ok (.getfield 72, 3) := by decide +kernel
theorem d_SR_takeTable_68 : decode prog_10_method_17_code 68 = .ok (.iload_n 1, 1) := by decide +kernel
theorem d_SR_takeTable_69 : decode prog_10_method_17_code 69 = .ok (.bipush 6, 2) := by decide +kernel
theorem d_SR_takeTable_71 : decode prog_10_method_17_code 71 = .ok (.iadd, 1) := by decide +kernel
theorem d_SR_takeTable_72 : decode prog_10_method_17_code 72 = .ok (.invokevirtual 123, 3) := by decide +kernel
theorem d_SR_takeTable_75 : decode prog_10_method_17_code 75 = .ok (.iconst 2, 1) := by decide +kernel
theorem d_SR_takeTable_76 : decode prog_10_method_17_code 76 = .ok (.if_icmp .eq 5, 3) := by decide +kernel
theorem d_SR_takeTable_79 : decode prog_10_method_17_code 79 = .ok (.iconst 4, 1) := by decide +kernel
theorem d_SR_takeTable_80 : decode prog_10_method_17_code 80 = .ok (.ireturn, 1) := by decide +kernel
theorem d_SR_takeTable_81 : decode prog_10_method_17_code 81 = .ok (.aload_n 0, 1) := by decide +kernel
theorem d_SR_takeTable_82 : decode prog_10_method_17_code 82 = .ok (.getfield 12, 3) := by decide +kernel
theorem d_SR_takeTable_85 : decode prog_10_method_17_code 85 = .ok (.iload 4, 2) := by decide +kernel
theorem d_SR_takeTable_87 : decode prog_10_method_17_code 87 = .ok (.invokevirtual 213, 3) := by decide +kernel
theorem d_SR_takeTable_90 : decode prog_10_method_17_code 90 = .ok (.iconst 0, 1) := by decide +kernel
theorem d_SR_takeTable_91 : decode prog_10_method_17_code 91 = .ok (.istore 5, 2) := by decide +kernel
theorem d_SR_takeTable_93 : decode prog_10_method_17_code 93 = .ok (.iload 5, 2) := by decide +kernel
theorem d_SR_takeTable_95 : decode prog_10_method_17_code 95 = .ok (.iload_n 3, 1) := by decide +kernel
theorem d_SR_takeTable_96 : decode prog_10_method_17_code 96 = .ok (.if_icmp .ge 36, 3) := by decide +kernel
theorem d_SR_takeTable_99 : decode prog_10_method_17_code 99 = .ok (.aload_n 0, 1) := by decide +kernel
theorem d_SR_takeTable_100 : decode prog_10_method_17_code 100 = .ok (.getfield 12, 3) := by decide +kernel
theorem d_SR_takeTable_103 : decode prog_10_method_17_code 103 = .ok (.iload 4, 2) := by decide +kernel
theorem d_SR_takeTable_105 : decode prog_10_method_17_code 105 = .ok (.iload 5, 2) := by decide +kernel
theorem d_SR_takeTable_107 : decode prog_10_method_17_code 107 = .ok (.aload_n 0, 1) := by decide +kernel
theorem d_SR_takeTable_108 : decode prog_10_method_17_code 108 = .ok (.getfield 72, 3) := by decide +kernel
theorem d_SR_takeTable_111 : decode prog_10_method_17_code 111 = .ok (.iload_n 1, 1) := by decide +kernel
theorem d_SR_takeTable_112 : decode prog_10_method_17_code 112 = .ok (.bipush 7, 2) := by decide +kernel
theorem d_SR_takeTable_114 : decode prog_10_method_17_code 114 = .ok (.iadd, 1) := by decide +kernel
theorem d_SR_takeTable_115 : decode prog_10_method_17_code 115 = .ok (.iconst 2, 1) := by decide +kernel
theorem d_SR_takeTable_116 : decode prog_10_method_17_code 116 = .ok (.iload 5, 2) := by decide +kernel
theorem d_SR_takeTable_118 : decode prog_10_method_17_code 118 = .ok (.imul, 1) := by decide +kernel
theorem d_SR_takeTable_119 : decode prog_10_method_17_code 119 = .ok (.iadd, 1) := by decide +kernel
theorem d_SR_takeTable_120 : decode prog_10_method_17_code 120 = .ok (.invokevirtual 146, 3) := by decide +kernel
theorem d_SR_takeTable_123 : decode prog_10_method_17_code 123 = .ok (.invokevirtual 216, 3) := by decide +kernel
theorem d_SR_takeTable_126 : decode prog_10_method_17_code 126 = .ok (.iinc 5 1, 3) := by decide +kernel
theorem d_SR_takeTable_129 : decode prog_10_method_17_code 129 = .ok (.goto (-36), 3) := by decide +kernel
theorem d_SR_takeTable_132 : decode prog_10_method_17_code 132 = .ok (.iconst 0, 1) := by decide +kernel
theorem d_SR_takeTable_133 : decode prog_10_method_17_code 133 = .ok (.ireturn, 1) := by decide +kernel
def L_SR_takeTable_93 (r0 : Nat) (b1 : Int32) (b2 : Int32) (b3 : Int32) (b4 : Int32) : Nat → Int32 → Mem →  Option (Int32 × Mem)
  | 0, _, _ => none
  | n + 1, a5, σ =>
  if b3 ≤ a5 then
  some (a5, σ)
  else
  lt (f_PI_setNumber (wtg r0 1) b4 a5 (f_BY_wide (wtg r0 0) ((b1 + (7 : Int32)) + ((2 : Int32) * a5)) σ) σ) fun σ9 =>
  L_SR_takeTable_93 r0 b1 b2 b3 b4 n (a5 + (1 : Int32)) σ9
def f_SR_takeTable (k0 : Nat) (x1 : Int32) (x2 : Int32) (σ : Mem) : Option (Int32 × Mem) :=
  if x2 = ((5 : Int32) + ((2 : Int32) * ((f_PI_top (wtg k0 1) σ) + (1 : Int32)))) then
  lt ((f_BY_get (wtg k0 0) (x1 + (5 : Int32)) σ) - (1 : Int32)) fun v2 =>
  if (f_PI_hasComponent (wtg k0 1) v2 σ) = 0 then
  some ((6 : Int32), σ)
  else
  if (f_PI_hasTable (wtg k0 1) v2 σ) = 0 then
  if (f_BY_get (wtg k0 0) (x1 + (6 : Int32)) σ) = (2 : Int32) then
  (f_PI_openTable (wtg k0 1) v2 σ).bind fun σ7 =>
  (L_SR_takeTable_93 k0 x1 x2 ((f_PI_top (wtg k0 1) σ) + (1 : Int32)) v2 9999 (0 : Int32) σ7).bind fun q10 =>
  some ((0 : Int32), q10.2)
  else
  some ((4 : Int32), σ)
  else
  some ((5 : Int32), σ)
  else
  some ((3 : Int32), σ)
set_option maxHeartbeats 4000000 in
set_option maxRecDepth 100000 in
theorem wL_SR_takeTable_93 {F : Fx} (C : Ctx F prog_10_method_17_code 6 "LineFrames$StreamReader" (some .int) 2 45) {cv : Option (Int32 × Mem) → Option Rs} (h0 : cv none = none) (r0 : Nat) (hr0 : Is r0 9) (b1 : Int32) (b2 : Int32) (b3 : Int32) (b4 : Int32) (hex : ∀ q : Int32 × Mem, J F 6 cv (some q) q.2 132 [(0, .ref (fad F r0)), (1, .int b1), (2, .int b2), (3, .int b3), (4, .int b4), (5, .int q.1)] []) : ∀ (n : Nat) (a5 : Int32) (σ : Mem), J F 6 cv (L_SR_takeTable_93 r0 b1 b2 b3 b4 n a5 σ) σ 93 [(0, .ref (fad F r0)), (1, .int b1), (2, .int b2), (3, .int b3), (4, .int b4), (5, .int a5)] [] := by
  intro n
  induction n with
  | zero => intro a5 σ hE; rw [L_SR_takeTable_93, h0] at hE; cases hE
  | succ n ih =>
    intro a5 σ
    rw [L_SR_takeTable_93]
    refine j_iload C d_SR_takeTable_93 5 rfl ?_
    refine j_iload_n C d_SR_takeTable_95 3 rfl ?_
    refine j_icmp_ge (tgt := 132) C d_SR_takeTable_96 (by decide) (fun c8 => ?_) (fun c8 => ?_)
    · exact hex (a5, σ)
    · refine j_aload_n C d_SR_takeTable_99 0 rfl ?_
      refine j_getR C hr0 fl_SR_12 rfl d_SR_takeTable_100 ?_
      refine j_iload C d_SR_takeTable_103 4 rfl ?_
      refine j_iload C d_SR_takeTable_105 5 rfl ?_
      refine j_aload_n C d_SR_takeTable_107 0 rfl ?_
      refine j_getR C hr0 fl_SR_72 rfl d_SR_takeTable_108 ?_
      refine j_iload_n C d_SR_takeTable_111 1 rfl ?_
      refine j_bipush (v := (7 : Int32)) C d_SR_takeTable_112 (by decide) ?_
      refine j_iadd C d_SR_takeTable_114 ?_
      refine j_iconst (v := (2 : Int32)) C d_SR_takeTable_115 (by decide) ?_
      refine j_iload C d_SR_takeTable_116 5 rfl ?_
      refine j_imul C d_SR_takeTable_118 ?_
      refine j_iadd C d_SR_takeTable_119 ?_
      refine j_callVi C mv_SR_146 [.int ((b1 + (7 : Int32)) + ((2 : Int32) * a5))] [.int a5, .int b4, .ref (fad F (wtg r0 1))] (tg_9_0 _ hr0) (c_BY_wide (tg_9_0 _ hr0) ((b1 + (7 : Int32)) + ((2 : Int32) * a5)) σ) rfl rfl (by decide) (Nat.le_of_ble_eq_true rfl) d_SR_takeTable_120 ?_
      refine j_callVv C mv_SR_216 [.int b4, .int a5, .int (f_BY_wide (wtg r0 0) ((b1 + (7 : Int32)) + ((2 : Int32) * a5)) σ)] [] (tg_9_1 _ hr0) (c_PI_setNumber (tg_9_1 _ hr0) b4 a5 (f_BY_wide (wtg r0 0) ((b1 + (7 : Int32)) + ((2 : Int32) * a5)) σ) σ) rfl rfl (by decide) (Nat.le_of_ble_eq_true rfl) d_SR_takeTable_123 ?_
      refine j_genM (fun σ9 => ?_)
      refine j_iinc (v := (a5 + (1 : Int32))) (lv9 := [(0, .ref (fad F r0)), (1, .int b1), (2, .int b2), (3, .int b3), (4, .int b4), (5, .int (a5 + (1 : Int32)))]) C d_SR_takeTable_126 5 rfl rfl rfl rfl (by decide) ?_
      refine j_goto (tgt := 93) C d_SR_takeTable_129 (by decide) ?_
      exact ih (a5 + (1 : Int32)) σ9
set_option maxHeartbeats 4000000 in
set_option maxRecDepth 100000 in
theorem w_SR_takeTable {F : Fx} (C : Ctx F prog_10_method_17_code 6 "LineFrames$StreamReader" (some .int) 2 45) {k0 : Nat} (h0k : Is k0 9) (x1 : Int32) (x2 : Int32) (σ : Mem) : J F 6 (cvO cvIM) (f_SR_takeTable k0 x1 x2 σ) σ 0 [(0, .ref (fad F k0)), (1, .int x1), (2, .int x2)] [] := by
  unfold f_SR_takeTable
  refine j_aload_n C d_SR_takeTable_0 0 rfl ?_
  refine j_getR C h0k fl_SR_12 rfl d_SR_takeTable_1 ?_
  refine j_callVi C mv_SR_204 [] [] (tg_9_1 _ h0k) (c_PI_top (tg_9_1 _ h0k) σ) rfl rfl (by decide) (Nat.le_of_ble_eq_true rfl) d_SR_takeTable_4 ?_
  refine j_iconst (v := (1 : Int32)) C d_SR_takeTable_7 (by decide) ?_
  refine j_iadd C d_SR_takeTable_8 ?_
  refine j_istore_n (lv9 := [(0, .ref (fad F k0)), (1, .int x1), (2, .int x2), (3, .int ((f_PI_top (wtg k0 1) σ) + (1 : Int32)))]) C d_SR_takeTable_9 rfl rfl (by decide) ?_
  refine j_iload_n C d_SR_takeTable_10 2 rfl ?_
  refine j_iconst (v := (5 : Int32)) C d_SR_takeTable_11 (by decide) ?_
  refine j_iconst (v := (2 : Int32)) C d_SR_takeTable_12 (by decide) ?_
  refine j_iload_n C d_SR_takeTable_13 3 rfl ?_
  refine j_imul C d_SR_takeTable_14 ?_
  refine j_iadd C d_SR_takeTable_15 ?_
  refine j_icmp_eq (tgt := 21) C d_SR_takeTable_16 (by decide) (fun c1 => ?_) (fun c1 => ?_)
  · refine j_aload_n C d_SR_takeTable_21 0 rfl ?_
    refine j_getR C h0k fl_SR_72 rfl d_SR_takeTable_22 ?_
    refine j_iload_n C d_SR_takeTable_25 1 rfl ?_
    refine j_iconst (v := (5 : Int32)) C d_SR_takeTable_26 (by decide) ?_
    refine j_iadd C d_SR_takeTable_27 ?_
    refine j_callVi C mv_SR_123 [.int (x1 + (5 : Int32))] [] (tg_9_0 _ h0k) (c_BY_get (tg_9_0 _ h0k) (x1 + (5 : Int32)) σ) rfl rfl (by decide) (Nat.le_of_ble_eq_true rfl) d_SR_takeTable_28 ?_
    refine j_iconst (v := (1 : Int32)) C d_SR_takeTable_31 (by decide) ?_
    refine j_isub C d_SR_takeTable_32 ?_
    refine j_nm (fun v2 v2_e => ?_)
    refine j_istore (lv9 := [(0, .ref (fad F k0)), (1, .int x1), (2, .int x2), (3, .int ((f_PI_top (wtg k0 1) σ) + (1 : Int32))), (4, .int v2)]) C d_SR_takeTable_33 rfl rfl (by decide) ?_
    refine j_aload_n C d_SR_takeTable_35 0 rfl ?_
    refine j_getR C h0k fl_SR_12 rfl d_SR_takeTable_36 ?_
    refine j_iload C d_SR_takeTable_39 4 rfl ?_
    refine j_callVi C mv_SR_207 [.int v2] [] (tg_9_1 _ h0k) (c_PI_hasComponent (tg_9_1 _ h0k) v2 σ) rfl rfl (by decide) (Nat.le_of_ble_eq_true rfl) d_SR_takeTable_41 ?_
    refine j_if_ne (tgt := 50) C d_SR_takeTable_44 (by decide) (fun c3 => ?_) (fun c3 => ?_)
    · refine j_aload_n C d_SR_takeTable_50 0 rfl ?_
      refine j_getR C h0k fl_SR_12 rfl d_SR_takeTable_51 ?_
      refine j_iload C d_SR_takeTable_54 4 rfl ?_
      refine j_callVi C mv_SR_210 [.int v2] [] (tg_9_1 _ h0k) (c_PI_hasTable (tg_9_1 _ h0k) v2 σ) rfl rfl (by decide) (Nat.le_of_ble_eq_true rfl) d_SR_takeTable_56 ?_
      refine j_if_eq (tgt := 64) C d_SR_takeTable_59 (by decide) (fun c4 => ?_) (fun c4 => ?_)
      · refine j_aload_n C d_SR_takeTable_64 0 rfl ?_
        refine j_getR C h0k fl_SR_72 rfl d_SR_takeTable_65 ?_
        refine j_iload_n C d_SR_takeTable_68 1 rfl ?_
        refine j_bipush (v := (6 : Int32)) C d_SR_takeTable_69 (by decide) ?_
        refine j_iadd C d_SR_takeTable_71 ?_
        refine j_callVi C mv_SR_123 [.int (x1 + (6 : Int32))] [] (tg_9_0 _ h0k) (c_BY_get (tg_9_0 _ h0k) (x1 + (6 : Int32)) σ) rfl rfl (by decide) (Nat.le_of_ble_eq_true rfl) d_SR_takeTable_72 ?_
        refine j_iconst (v := (2 : Int32)) C d_SR_takeTable_75 (by decide) ?_
        refine j_icmp_eq (tgt := 81) C d_SR_takeTable_76 (by decide) (fun c5 => ?_) (fun c5 => ?_)
        · refine j_aload_n C d_SR_takeTable_81 0 rfl ?_
          refine j_getR C h0k fl_SR_12 rfl d_SR_takeTable_82 ?_
          refine j_iload C d_SR_takeTable_85 4 rfl ?_
          refine j_bind rfl (fun σ7 e6 => ?_)
          refine j_callVv C mv_SR_213 [.int v2] [] (tg_9_1 _ h0k) (c_PI_openTable (tg_9_1 _ h0k) v2 σ e6) rfl rfl (by decide) (Nat.le_of_ble_eq_true rfl) d_SR_takeTable_87 ?_
          refine j_iconst (v := (0 : Int32)) C d_SR_takeTable_90 (by decide) ?_
          refine j_istore (lv9 := [(0, .ref (fad F k0)), (1, .int x1), (2, .int x2), (3, .int ((f_PI_top (wtg k0 1) σ) + (1 : Int32))), (4, .int v2), (5, .int (0 : Int32))]) C d_SR_takeTable_91 rfl rfl (by decide) ?_
          refine j_loop (wL_SR_takeTable_93 C rfl k0 h0k x1 x2 ((f_PI_top (wtg k0 1) σ) + (1 : Int32)) v2 (fun q10 => j_some ?_) 9999 (0 : Int32) σ7)
          refine j_iconst (v := (0 : Int32)) C d_SR_takeTable_132 (by decide) ?_
          exact j_ireti C (fun ρ h => leaf_eq h) d_SR_takeTable_133
        · refine j_iconst (v := (4 : Int32)) C d_SR_takeTable_79 (by decide) ?_
          exact j_ireti C (fun ρ h => leaf_eq h) d_SR_takeTable_80
      · refine j_iconst (v := (5 : Int32)) C d_SR_takeTable_62 (by decide) ?_
        exact j_ireti C (fun ρ h => leaf_eq h) d_SR_takeTable_63
    · refine j_bipush (v := (6 : Int32)) C d_SR_takeTable_47 (by decide) ?_
      exact j_ireti C (fun ρ h => leaf_eq h) d_SR_takeTable_49
  · refine j_iconst (v := (3 : Int32)) C d_SR_takeTable_19 (by decide) ?_
    exact j_ireti C (fun ρ h => leaf_eq h) d_SR_takeTable_20
theorem c_SR_takeTable {l : Launch} {D : va_G} {G : GC} {ad : Nat → Nat} {k0 : Nat} (h0k : Is k0 9) (x1 : Int32) (x2 : Int32) (σ : Mem) {q : Int32 × Mem} (hq : f_SR_takeTable k0 x1 x2 σ = some q) : Ctr l D G ad ⟨"LineFrames$StreamReader", "takeTable", "(II)I"⟩ prog_10_method_17_code 6 (some .int) 2 45 [.ref (ad k0), .int x1, .int x2] σ (.inl (some (.int q.1)), q.2) := ctr_J (cv := (cvO cvIM)) (E := f_SR_takeTable k0 x1 x2 σ) (by decide +kernel) (Nat.le_of_ble_eq_true rfl) (by rw [hq]; rfl) (fun F h C => by subst h; exact w_SR_takeTable C h0k x1 x2 σ)
/-! LineFrames$StreamReader takePresetsOrTable (II)I -/
theorem d_SR_takePresetsOrTable_0 : decode prog_10_method_15_code 0 = .ok (.iload_n 2, 1) := by decide +kernel
theorem d_SR_takePresetsOrTable_1 : decode prog_10_method_15_code 1 = .ok (.iconst 3, 1) := by decide +kernel
theorem d_SR_takePresetsOrTable_2 : decode prog_10_method_15_code 2 = .ok (.if_icmp .ge 5, 3) := by decide +kernel
theorem d_SR_takePresetsOrTable_5 : decode prog_10_method_15_code 5 = .ok (.iconst 3, 1) := by decide +kernel
theorem d_SR_takePresetsOrTable_6 : decode prog_10_method_15_code 6 = .ok (.ireturn, 1) := by decide +kernel
theorem d_SR_takePresetsOrTable_7 : decode prog_10_method_15_code 7 = .ok (.aload_n 0, 1) := by decide +kernel
theorem d_SR_takePresetsOrTable_8 : decode prog_10_method_15_code 8 = .ok (.getfield 72, 3) := by decide +kernel
theorem d_SR_takePresetsOrTable_11 : decode prog_10_method_15_code 11 = .ok (.iload_n 1, 1) := by decide +kernel
theorem d_SR_takePresetsOrTable_12 : decode prog_10_method_15_code 12 = .ok (.iconst 4, 1) := by decide +kernel
theorem d_SR_takePresetsOrTable_13 : decode prog_10_method_15_code 13 = .ok (.iadd, 1) := by decide +kernel
theorem d_SR_takePresetsOrTable_14 : decode prog_10_method_15_code 14 = .ok (.invokevirtual 123, 3) := by decide +kernel
theorem d_SR_takePresetsOrTable_17 : decode prog_10_method_15_code 17 = .ok (.lookupswitch 41 #[(1, 27), (2, 34)], 27) := by decide +kernel
theorem d_SR_takePresetsOrTable_44 : decode prog_10_method_15_code 44 = .ok (.aload_n 0, 1) := by decide +kernel
theorem d_SR_takePresetsOrTable_45 : decode prog_10_method_15_code 45 = .ok (.iload_n 1, 1) := by decide +kernel
theorem d_SR_takePresetsOrTable_46 : decode prog_10_method_15_code 46 = .ok (.iload_n 2, 1) := by decide +kernel
theorem d_SR_takePresetsOrTable_47 : decode prog_10_method_15_code 47 = .ok (.invokevirtual 188, 3) := by decide +kernel
theorem d_SR_takePresetsOrTable_50 : decode prog_10_method_15_code 50 = .ok (.ireturn, 1) := by decide +kernel
theorem d_SR_takePresetsOrTable_51 : decode prog_10_method_15_code 51 = .ok (.aload_n 0, 1) := by decide +kernel
theorem d_SR_takePresetsOrTable_52 : decode prog_10_method_15_code 52 = .ok (.iload_n 1, 1) := by decide +kernel
theorem d_SR_takePresetsOrTable_53 : decode prog_10_method_15_code 53 = .ok (.iload_n 2, 1) := by decide +kernel
theorem d_SR_takePresetsOrTable_54 : decode prog_10_method_15_code 54 = .ok (.invokevirtual 191, 3) := by decide +kernel
theorem d_SR_takePresetsOrTable_57 : decode prog_10_method_15_code 57 = .ok (.ireturn, 1) := by decide +kernel
theorem d_SR_takePresetsOrTable_58 : decode prog_10_method_15_code 58 = .ok (.iconst 4, 1) := by decide +kernel
theorem d_SR_takePresetsOrTable_59 : decode prog_10_method_15_code 59 = .ok (.ireturn, 1) := by decide +kernel
def f_SR_takePresetsOrTable (k0 : Nat) (x1 : Int32) (x2 : Int32) (σ : Mem) : Option (Int32 × Mem) :=
  if (3 : Int32) ≤ x2 then
  if (f_BY_get (wtg k0 0) (x1 + (4 : Int32)) σ) = 1 then
  lt (f_SR_takePresets k0 x1 x2 σ) fun q4 =>
  some (q4.1, q4.2)
  else
  if (f_BY_get (wtg k0 0) (x1 + (4 : Int32)) σ) = 2 then
  (f_SR_takeTable k0 x1 x2 σ).bind fun q6 =>
  some (q6.1, q6.2)
  else
  some ((4 : Int32), σ)
  else
  some ((3 : Int32), σ)
set_option maxHeartbeats 4000000 in
set_option maxRecDepth 100000 in
theorem w_SR_takePresetsOrTable {F : Fx} (C : Ctx F prog_10_method_15_code 3 "LineFrames$StreamReader" (some .int) 3 70) {k0 : Nat} (h0k : Is k0 9) (x1 : Int32) (x2 : Int32) (σ : Mem) : J F 3 (cvO cvIM) (f_SR_takePresetsOrTable k0 x1 x2 σ) σ 0 [(0, .ref (fad F k0)), (1, .int x1), (2, .int x2)] [] := by
  unfold f_SR_takePresetsOrTable
  refine j_iload_n C d_SR_takePresetsOrTable_0 2 rfl ?_
  refine j_iconst (v := (3 : Int32)) C d_SR_takePresetsOrTable_1 (by decide) ?_
  refine j_icmp_ge (tgt := 7) C d_SR_takePresetsOrTable_2 (by decide) (fun c1 => ?_) (fun c1 => ?_)
  · refine j_aload_n C d_SR_takePresetsOrTable_7 0 rfl ?_
    refine j_getR C h0k fl_SR_72 rfl d_SR_takePresetsOrTable_8 ?_
    refine j_iload_n C d_SR_takePresetsOrTable_11 1 rfl ?_
    refine j_iconst (v := (4 : Int32)) C d_SR_takePresetsOrTable_12 (by decide) ?_
    refine j_iadd C d_SR_takePresetsOrTable_13 ?_
    refine j_callVi C mv_SR_123 [.int (x1 + (4 : Int32))] [] (tg_9_0 _ h0k) (c_BY_get (tg_9_0 _ h0k) (x1 + (4 : Int32)) σ) rfl rfl (by decide) (Nat.le_of_ble_eq_true rfl) d_SR_takePresetsOrTable_14 ?_
    refine j_case (fun c2 => ?_) (fun c2 => ?_)
    · refine j_look (off := 27) (tgt := 44) C d_SR_takePresetsOrTable_17 (by decide) (by rw [c2] <;> decide) (by decide) ?_
      refine j_aload_n C d_SR_takePresetsOrTable_44 0 rfl ?_
      refine j_iload_n C d_SR_takePresetsOrTable_45 1 rfl ?_
      refine j_iload_n C d_SR_takePresetsOrTable_46 2 rfl ?_
      refine j_callVi C mv_SR_188 [.int x1, .int x2] [] h0k (c_SR_takePresets h0k x1 x2 σ) rfl rfl (by decide) (Nat.le_of_ble_eq_true rfl) d_SR_takePresetsOrTable_47 ?_
      refine j_genIM (fun q4 => ?_)
      exact j_ireti C (fun ρ h => leaf_eq h) d_SR_takePresetsOrTable_50
    · refine j_case (fun c3 => ?_) (fun c3 => ?_)
      · refine j_look (off := 34) (tgt := 51) C d_SR_takePresetsOrTable_17 (by decide) (by rw [c3] <;> decide) (by decide) ?_
        refine j_aload_n C d_SR_takePresetsOrTable_51 0 rfl ?_
        refine j_iload_n C d_SR_takePresetsOrTable_52 1 rfl ?_
        refine j_iload_n C d_SR_takePresetsOrTable_53 2 rfl ?_
        refine j_bind rfl (fun q6 e5 => ?_)
        refine j_callVi C mv_SR_191 [.int x1, .int x2] [] h0k (c_SR_takeTable h0k x1 x2 σ e5) rfl rfl (by decide) (Nat.le_of_ble_eq_true rfl) d_SR_takePresetsOrTable_54 ?_
        exact j_ireti C (fun ρ h => leaf_eq h) d_SR_takePresetsOrTable_57
      · refine j_look (off := 41) (tgt := 58) C d_SR_takePresetsOrTable_17 (by decide) (by rw [lv_osw c2 (by decide), lv_osw c3 (by decide)] <;> rfl) (by decide) ?_
        refine j_iconst (v := (4 : Int32)) C d_SR_takePresetsOrTable_58 (by decide) ?_
        exact j_ireti C (fun ρ h => leaf_eq h) d_SR_takePresetsOrTable_59
  · refine j_iconst (v := (3 : Int32)) C d_SR_takePresetsOrTable_5 (by decide) ?_
    exact j_ireti C (fun ρ h => leaf_eq h) d_SR_takePresetsOrTable_6
theorem c_SR_takePresetsOrTable {l : Launch} {D : va_G} {G : GC} {ad : Nat → Nat} {k0 : Nat} (h0k : Is k0 9) (x1 : Int32) (x2 : Int32) (σ : Mem) {q : Int32 × Mem} (hq : f_SR_takePresetsOrTable k0 x1 x2 σ = some q) : Ctr l D G ad ⟨"LineFrames$StreamReader", "takePresetsOrTable", "(II)I"⟩ prog_10_method_15_code 3 (some .int) 3 70 [.ref (ad k0), .int x1, .int x2] σ (.inl (some (.int q.1)), q.2) := ctr_J (cv := (cvO cvIM)) (E := f_SR_takePresetsOrTable k0 x1 x2 σ) (by decide +kernel) (Nat.le_of_ble_eq_true rfl) (by rw [hq]; rfl) (fun F h C => by subst h; exact w_SR_takePresetsOrTable C h0k x1 x2 σ)
/-! LineFrames$StreamReader takeRestarts (II)I -/
theorem d_SR_takeRestarts_0 : decode prog_10_method_18_code 0 = .ok (.iload_n 2, 1) := by decide +kernel
theorem d_SR_takeRestarts_1 : decode prog_10_method_18_code 1 = .ok (.iconst 4, 1) := by decide +kernel
theorem d_SR_takeRestarts_2 : decode prog_10_method_18_code 2 = .ok (.if_icmp .eq 5, 3) := by decide +kernel
theorem d_SR_takeRestarts_5 : decode prog_10_method_18_code 5 = .ok (.iconst 3, 1) := by decide +kernel
theorem d_SR_takeRestarts_6 : decode prog_10_method_18_code 6 = .ok (.ireturn, 1) := by decide +kernel
theorem d_SR_takeRestarts_7 : decode prog_10_method_18_code 7 = .ok (.aload_n 0, 1) := by decide +kernel
theorem d_SR_takeRestarts_8 : decode prog_10_method_18_code 8 = .ok (.getfield 72, 3) := by decide +kernel
theorem d_SR_takeRestarts_11 : decode prog_10_method_18_code 11 = .ok (.iload_n 1, 1) := by decide +kernel
theorem d_SR_takeRestarts_12 : decode prog_10_method_18_code 12 = .ok (.iconst 4, 1) := by decide +kernel
theorem d_SR_takeRestarts_13 : decode prog_10_method_18_code 13 = .ok (.iadd, 1) := by decide +kernel
theorem d_SR_takeRestarts_14 : decode prog_10_method_18_code 14 = .ok (.invokevirtual 146, 3) := by decide +kernel
theorem d_SR_takeRestarts_17 : decode prog_10_method_18_code 17 = .ok (.istore_n 3, 1) := by decide +kernel
theorem d_SR_takeRestarts_18 : decode prog_10_method_18_code 18 = .ok (.iconst 2, 1) := by decide +kernel
theorem d_SR_takeRestarts_19 : decode prog_10_method_18_code 19 = .ok (.iload_n 3, 1) := by decide +kernel
theorem d_SR_takeRestarts_20 : decode prog_10_method_18_code 20 = .ok (.invokestatic 194, 3) := by decide +kernel
theorem d_SR_takeRestarts_23 : decode prog_10_method_18_code 23 = .ok (.ifCond .ne 5, 3) := by decide +kernel
theorem d_SR_takeRestarts_26 : decode prog_10_method_18_code 26 = .ok (.iconst 4, 1) := by decide +kernel
theorem d_SR_takeRestarts_27 : decode prog_10_method_18_code 27 = .ok (.ireturn, 1) := by decide +kernel
theorem d_SR_takeRestarts_28 : decode prog_10_method_18_code 28 = .ok (.aload_n 0, 1) := by decide +kernel
theorem d_SR_takeRestarts_29 : decode prog_10_method_18_code 29 = .ok (.getfield 12, 3) := by decide +kernel
theorem d_SR_takeRestarts_32 : decode prog_10_method_18_code 32 = .ok (.getfield 198, 3) := by decide +kernel
theorem d_SR_takeRestarts_35 : decode prog_10_method_18_code 35 = .ok (.iconst 2, 1) := by decide +kernel
theorem d_SR_takeRestarts_36 : decode prog_10_method_18_code 36 = .ok (.iload_n 3, 1) := by decide +kernel
theorem d_SR_takeRestarts_37 : decode prog_10_method_18_code 37 = .ok (.invokevirtual 201, 3) := by decide +kernel
theorem d_SR_takeRestarts_40 : decode prog_10_method_18_code 40 = .ok (.iconst 0, 1) := by decide +kernel
theorem d_SR_takeRestarts_41 : decode prog_10_method_18_code 41 = .ok (.ireturn, 1) := by decide +kernel
def f_SR_takeRestarts (k0 : Nat) (x1 : Int32) (x2 : Int32) (σ : Mem) : Int32 × Mem :=
  if x2 = (4 : Int32) then
  lt (f_BY_wide (wtg k0 0) (x1 + (4 : Int32)) σ) fun v2 =>
  if (f_PI_mayPreset (2 : Int32) v2 σ) = 0 then
  ((4 : Int32), σ)
  else
  lt (f_RO_set (wtg (wtg k0 1) 1) (2 : Int32) v2 σ) fun σ4 =>
  ((0 : Int32), σ4)
  else
  ((3 : Int32), σ)
set_option maxHeartbeats 4000000 in
set_option maxRecDepth 100000 in
theorem w_SR_takeRestarts {F : Fx} (C : Ctx F prog_10_method_18_code 4 "LineFrames$StreamReader" (some .int) 2 42) {k0 : Nat} (h0k : Is k0 9) (x1 : Int32) (x2 : Int32) (σ : Mem) : J F 4 cvIM (f_SR_takeRestarts k0 x1 x2 σ) σ 0 [(0, .ref (fad F k0)), (1, .int x1), (2, .int x2)] [] := by
  unfold f_SR_takeRestarts
  refine j_iload_n C d_SR_takeRestarts_0 2 rfl ?_
  refine j_iconst (v := (4 : Int32)) C d_SR_takeRestarts_1 (by decide) ?_
  refine j_icmp_eq (tgt := 7) C d_SR_takeRestarts_2 (by decide) (fun c1 => ?_) (fun c1 => ?_)
  · refine j_aload_n C d_SR_takeRestarts_7 0 rfl ?_
    refine j_getR C h0k fl_SR_72 rfl d_SR_takeRestarts_8 ?_
    refine j_iload_n C d_SR_takeRestarts_11 1 rfl ?_
    refine j_iconst (v := (4 : Int32)) C d_SR_takeRestarts_12 (by decide) ?_
    refine j_iadd C d_SR_takeRestarts_13 ?_
    refine j_callVi C mv_SR_146 [.int (x1 + (4 : Int32))] [] (tg_9_0 _ h0k) (c_BY_wide (tg_9_0 _ h0k) (x1 + (4 : Int32)) σ) rfl rfl (by decide) (Nat.le_of_ble_eq_true rfl) d_SR_takeRestarts_14 ?_
    refine j_nm (fun v2 v2_e => ?_)
    refine j_istore_n (lv9 := [(0, .ref (fad F k0)), (1, .int x1), (2, .int x2), (3, .int v2)]) C d_SR_takeRestarts_17 rfl rfl (by decide) ?_
    refine j_iconst (v := (2 : Int32)) C d_SR_takeRestarts_18 (by decide) ?_
    refine j_iload_n C d_SR_takeRestarts_19 3 rfl ?_
    refine j_callSi C ms_SR_194 [.int (2 : Int32), .int v2] [] (c_PI_mayPreset (2 : Int32) v2 σ) rfl rfl (by decide) (Nat.le_of_ble_eq_true rfl) d_SR_takeRestarts_20 ?_
    refine j_if_ne (tgt := 28) C d_SR_takeRestarts_23 (by decide) (fun c3 => ?_) (fun c3 => ?_)
    · refine j_aload_n C d_SR_takeRestarts_28 0 rfl ?_
      refine j_getR C h0k fl_SR_12 rfl d_SR_takeRestarts_29 ?_
      refine j_getR C (tg_9_1 _ h0k) fl_SR_198 rfl d_SR_takeRestarts_32 ?_
      refine j_iconst (v := (2 : Int32)) C d_SR_takeRestarts_35 (by decide) ?_
      refine j_iload_n C d_SR_takeRestarts_36 3 rfl ?_
      refine j_callVv C mv_SR_201 [.int (2 : Int32), .int v2] [] (tg_7_1 _ (tg_9_1 _ h0k)) (c_RO_set (tg_7_1 _ (tg_9_1 _ h0k)) (2 : Int32) v2 σ) rfl rfl (by decide) (Nat.le_of_ble_eq_true rfl) d_SR_takeRestarts_37 ?_
      refine j_genM (fun σ4 => ?_)
      refine j_iconst (v := (0 : Int32)) C d_SR_takeRestarts_40 (by decide) ?_
      exact j_ireti C (fun ρ h => leaf_eq h) d_SR_takeRestarts_41
    · refine j_iconst (v := (4 : Int32)) C d_SR_takeRestarts_26 (by decide) ?_
      exact j_ireti C (fun ρ h => leaf_eq h) d_SR_takeRestarts_27
  · refine j_iconst (v := (3 : Int32)) C d_SR_takeRestarts_5 (by decide) ?_
    exact j_ireti C (fun ρ h => leaf_eq h) d_SR_takeRestarts_6
theorem c_SR_takeRestarts {l : Launch} {D : va_G} {G : GC} {ad : Nat → Nat} {k0 : Nat} (h0k : Is k0 9) (x1 : Int32) (x2 : Int32) (σ : Mem) : Ctr l D G ad ⟨"LineFrames$StreamReader", "takeRestarts", "(II)I"⟩ prog_10_method_18_code 4 (some .int) 2 42 [.ref (ad k0), .int x1, .int x2] σ (.inl (some (.int (f_SR_takeRestarts k0 x1 x2 σ).1)), (f_SR_takeRestarts k0 x1 x2 σ).2) := ctr_J (cv := cvIM) (E := f_SR_takeRestarts k0 x1 x2 σ) (by decide +kernel) (Nat.le_of_ble_eq_true rfl) rfl (fun F h C => by subst h; exact w_SR_takeRestarts C h0k x1 x2 σ)
end
section
/-! LineFrames$StreamReader faultOfPart (IIII)I -/
theorem d_SR_faultOfPart_0 : decode prog_10_method_20_code 0 = .ok (.iload_n 3, 1) := by decide +kernel
theorem d_SR_faultOfPart_1 : decode prog_10_method_20_code 1 = .ok (.iconst 1, 1) := by decide +kernel
theorem d_SR_faultOfPart_2 : decode prog_10_method_20_code 2 = .ok (.isub, 1) := by decide +kernel
theorem d_SR_faultOfPart_3 : decode prog_10_method_20_code 3 = .ok (.istore 5, 2) := by decide +kernel
theorem d_SR_faultOfPart_5 : decode prog_10_method_20_code 5 = .ok (.aload_n 0, 1) := by decide +kernel
theorem d_SR_faultOfPart_6 : decode prog_10_method_20_code 6 = .ok (.getfield 12, 3) := by decide +kernel
theorem d_SR_faultOfPart_9 : decode prog_10_method_20_code 9 = .ok (.iload 5, 2) := by decide +kernel
theorem d_SR_faultOfPart_11 : decode prog_10_method_20_code 11 = .ok (.invokevirtual 207, 3) := by decide +kernel
theorem d_SR_faultOfPart_14 : decode prog_10_method_20_code 14 = .ok (.ifCond .ne 6, 3) := by decide +kernel
theorem d_SR_faultOfPart_17 : decode prog_10_method_20_code 17 = .ok (.bipush 6, 2) := by decide +kernel
theorem d_SR_faultOfPart_19 : decode prog_10_method_20_code 19 = .ok (.ireturn, 1) := by decide +kernel
theorem d_SR_faultOfPart_20 : decode prog_10_method_20_code 20 = .ok (.iload_n 2, 1) := by decide +kernel
theorem d_SR_faultOfPart_21 : decode prog_10_method_20_code 21 = .ok (.iconst 1, 1) := by decide +kernel
theorem d_SR_faultOfPart_22 : decode prog_10_method_20_code 22 = .ok (.if_icmp .le 11, 3) := by decide +kernel
theorem d_SR_faultOfPart_25 : decode prog_10_method_20_code 25 = .ok (.iload 5, 2) := by decide +kernel
theorem d_SR_faultOfPart_27 : decode prog_10_method_20_code 27 = .ok (.iload_n 1, 1) := by decide +kernel
theorem d_SR_faultOfPart_28 : decode prog_10_method_20_code 28 = .ok (.if_icmp .eq 5, 3) := by decide +kernel
theorem d_SR_faultOfPart_31 : decode prog_10_method_20_code 31 = .ok (.iconst 4, 1) := by decide +kernel
theorem d_SR_faultOfPart_32 : decode prog_10_method_20_code 32 = .ok (.ireturn, 1) := by decide +kernel
theorem d_SR_faultOfPart_33 : decode prog_10_method_20_code 33 = .ok (.aload_n 0, 1) := by decide +kernel
theorem d_SR_faultOfPart_34 : decode prog_10_method_20_code 34 = .ok (.getfield 43, 3) := by decide +kernel
theorem d_SR_faultOfPart_37 : decode prog_10_method_20_code 37 = .ok (.iload 5, 2) := by decide +kernel
theorem d_SR_faultOfPart_39 : decode prog_10_method_20_code 39 = .ok (.invokevirtual 142, 3) := by decide +kernel
theorem d_SR_faultOfPart_42 : decode prog_10_method_20_code 42 = .ok (.ifCond .eq 5, 3) := by decide +kernel
theorem d_SR_faultOfPart_45 : decode prog_10_method_20_code 45 = .ok (.iconst 5, 1) := by decide +kernel
theorem d_SR_faultOfPart_46 : decode prog_10_method_20_code 46 = .ok (.ireturn, 1) := by decide +kernel
theorem d_SR_faultOfPart_47 : decode prog_10_method_20_code 47 = .ok (.iload 4, 2) := by decide +kernel
theorem d_SR_faultOfPart_49 : decode prog_10_method_20_code 49 = .ok (.iload_n 3, 1) := by decide +kernel
theorem d_SR_faultOfPart_50 : decode prog_10_method_20_code 50 = .ok (.if_icmp .ne 19, 3) := by decide +kernel
theorem d_SR_faultOfPart_53 : decode prog_10_method_20_code 53 = .ok (.aload_n 0, 1) := by decide +kernel
theorem d_SR_faultOfPart_54 : decode prog_10_method_20_code 54 = .ok (.getfield 12, 3) := by decide +kernel
theorem d_SR_faultOfPart_57 : decode prog_10_method_20_code 57 = .ok (.iload 5, 2) := by decide +kernel
theorem d_SR_faultOfPart_59 : decode prog_10_method_20_code 59 = .ok (.invokevirtual 210, 3) := by decide +kernel
theorem d_SR_faultOfPart_62 : decode prog_10_method_20_code 62 = .ok (.ifCond .eq 7, 3) := by decide +kernel
theorem d_SR_faultOfPart_65 : decode prog_10_method_20_code 65 = .ok (.iconst 1, 1) := by decide +kernel
theorem d_SR_faultOfPart_66 : decode prog_10_method_20_code 66 = .ok (.goto 4, 3) := by decide +kernel
theorem d_SR_faultOfPart_69 : decode prog_10_method_20_code 69 = .ok (.iconst 0, 1) := by decide +kernel
theorem d_SR_faultOfPart_70 : decode prog_10_method_20_code 70 = .ok (.istore 6, 2) := by decide +kernel
theorem d_SR_faultOfPart_72 : decode prog_10_method_20_code 72 = .ok (.iload 4, 2) := by decide +kernel
theorem d_SR_faultOfPart_74 : decode prog_10_method_20_code 74 = .ok (.ifCond .eq 8, 3) := by decide +kernel
theorem d_SR_faultOfPart_77 : decode prog_10_method_20_code 77 = .ok (.iload 6, 2) := by decide +kernel
theorem d_SR_faultOfPart_79 : decode prog_10_method_20_code 79 = .ok (.ifCond .eq 7, 3) := by decide +kernel
theorem d_SR_faultOfPart_82 : decode prog_10_method_20_code 82 = .ok (.iconst 0, 1) := by decide +kernel
theorem d_SR_faultOfPart_83 : decode prog_10_method_20_code 83 = .ok (.goto 4, 3) := by decide +kernel
theorem d_SR_faultOfPart_86 : decode prog_10_method_20_code 86 = .ok (.iconst 4, 1) := by decide +kernel
theorem d_SR_faultOfPart_87 : decode prog_10_method_20_code 87 = .ok (.ireturn, 1) := by decide +kernel
def f_SR_faultOfPart (k0 : Nat) (x1 : Int32) (x2 : Int32) (x3 : Int32) (x4 : Int32) (σ : Mem) : Int32 :=
  if (f_PI_hasComponent (wtg k0 1) (x3 - (1 : Int32)) σ) = 0 then
  (6 : Int32)
  else
  lt (
  if (f_RO_get (wtg k0 5) (x3 - (1 : Int32)) σ) = 0 then
  lt (if x4 = x3 then (if (f_PI_hasTable (wtg k0 1) (x3 - (1 : Int32)) σ) = 0 then (0 : Int32) else (1 : Int32)) else (0 : Int32)) fun v152 =>
  (if x4 = 0 then (0 : Int32) else (if v152 = 0 then (4 : Int32) else (0 : Int32)))
  else
  (5 : Int32)) fun K143 =>
  if x2 ≤ (1 : Int32) then
  K143
  else
  if (x3 - (1 : Int32)) = x1 then
  K143
  else
  (4 : Int32)
set_option maxHeartbeats 4000000 in
set_option maxRecDepth 100000 in
theorem w_SR_faultOfPart {F : Fx} (C : Ctx F prog_10_method_20_code 7 "LineFrames$StreamReader" (some .int) 2 42) {k0 : Nat} (h0k : Is k0 9) (x1 : Int32) (x2 : Int32) (x3 : Int32) (x4 : Int32) (σ : Mem) : J F 7 (cvI σ) (f_SR_faultOfPart k0 x1 x2 x3 x4 σ) σ 0 [(0, .ref (fad F k0)), (1, .int x1), (2, .int x2), (3, .int x3), (4, .int x4)] [] := by
  unfold f_SR_faultOfPart
  refine j_iload_n C d_SR_faultOfPart_0 3 rfl ?_
  refine j_iconst (v := (1 : Int32)) C d_SR_faultOfPart_1 (by decide) ?_
  refine j_isub C d_SR_faultOfPart_2 ?_
  refine j_istore (lv9 := [(0, .ref (fad F k0)), (1, .int x1), (2, .int x2), (3, .int x3), (4, .int x4), (5, .int (x3 - (1 : Int32)))]) C d_SR_faultOfPart_3 rfl rfl (by decide) ?_
  refine j_aload_n C d_SR_faultOfPart_5 0 rfl ?_
  refine j_getR C h0k fl_SR_12 rfl d_SR_faultOfPart_6 ?_
  refine j_iload C d_SR_faultOfPart_9 5 rfl ?_
  refine j_callVi C mv_SR_207 [.int (x3 - (1 : Int32))] [] (tg_9_1 _ h0k) (c_PI_hasComponent (tg_9_1 _ h0k) (x3 - (1 : Int32)) σ) rfl rfl (by decide) (Nat.le_of_ble_eq_true rfl) d_SR_faultOfPart_11 ?_
  refine j_if_ne (tgt := 20) C d_SR_faultOfPart_14 (by decide) (fun c1 => ?_) (fun c1 => ?_)
  · refine j_iload_n C d_SR_faultOfPart_20 2 rfl ?_
    refine j_iconst (v := (1 : Int32)) C d_SR_faultOfPart_21 (by decide) ?_
    refine j_join0 33 ([(0, .ref (fad F k0)), (1, .int x1), (2, .int x2), (3, .int x3), (4, .int x4), (5, .int (x3 - (1 : Int32)))]) ([]) (?_) (fun K143 H144 => ?_)
    · refine j_aload_n C d_SR_faultOfPart_33 0 rfl ?_
      refine j_getR C h0k fl_SR_43 rfl d_SR_faultOfPart_34 ?_
      refine j_iload C d_SR_faultOfPart_37 5 rfl ?_
      refine j_callVi C mv_SR_142 [.int (x3 - (1 : Int32))] [] (tg_9_5 _ h0k) (c_RO_get (tg_9_5 _ h0k) (x3 - (1 : Int32)) σ) rfl rfl (by decide) (Nat.le_of_ble_eq_true rfl) d_SR_faultOfPart_39 ?_
      refine j_if_eq (tgt := 47) C d_SR_faultOfPart_42 (by decide) (fun c145 => ?_) (fun c145 => ?_)
      · refine j_iload C d_SR_faultOfPart_47 4 rfl ?_
        refine j_iload_n C d_SR_faultOfPart_49 3 rfl ?_
        refine d_icmp_ne (a := (if (f_PI_hasTable (wtg k0 1) (x3 - (1 : Int32)) σ) = 0 then (0 : Int32) else (1 : Int32))) (b := (0 : Int32)) (jp := 70) (tgt := 69) C d_SR_faultOfPart_50 (by decide) (fun c148 k149 => ?_) (fun c148 k149 => ?_) ?_
        · refine j_iconst (v := (0 : Int32)) C d_SR_faultOfPart_69 (by decide) ?_
          exact k149
        · refine j_aload_n C d_SR_faultOfPart_53 0 rfl ?_
          refine j_getR C h0k fl_SR_12 rfl d_SR_faultOfPart_54 ?_
          refine j_iload C d_SR_faultOfPart_57 5 rfl ?_
          refine j_callVi C mv_SR_210 [.int (x3 - (1 : Int32))] [] (tg_9_1 _ h0k) (c_PI_hasTable (tg_9_1 _ h0k) (x3 - (1 : Int32)) σ) rfl rfl (by decide) (Nat.le_of_ble_eq_true rfl) d_SR_faultOfPart_59 ?_
          refine d_if_eq (a := (0 : Int32)) (b := (1 : Int32)) (jp := 70) (tgt := 69) C d_SR_faultOfPart_62 (by decide) (fun c150 k151 => ?_) (fun c150 k151 => ?_) ?_
          · refine j_iconst (v := (0 : Int32)) C d_SR_faultOfPart_69 (by decide) ?_
            exact k151
          · refine j_iconst (v := (1 : Int32)) C d_SR_faultOfPart_65 (by decide) ?_
            refine j_goto (tgt := 70) C d_SR_faultOfPart_66 (by decide) ?_
            exact k151
          exact k149
        refine j_nm (fun v152 v152_e => ?_)
        refine j_istore (lv9 := [(0, .ref (fad F k0)), (1, .int x1), (2, .int x2), (3, .int x3), (4, .int x4), (5, .int (x3 - (1 : Int32))), (6, .int v152)]) C d_SR_faultOfPart_70 rfl rfl (by decide) ?_
        refine j_iload C d_SR_faultOfPart_72 4 rfl ?_
        refine d_if_eq (a := (0 : Int32)) (b := (if v152 = 0 then (4 : Int32) else (0 : Int32))) (jp := 87) (tgt := 82) C d_SR_faultOfPart_74 (by decide) (fun c159 k160 => ?_) (fun c159 k160 => ?_) ?_
        · refine j_iconst (v := (0 : Int32)) C d_SR_faultOfPart_82 (by decide) ?_
          refine j_goto (tgt := 87) C d_SR_faultOfPart_83 (by decide) ?_
          exact k160
        · refine j_iload C d_SR_faultOfPart_77 6 rfl ?_
          refine d_if_eq (a := (4 : Int32)) (b := (0 : Int32)) (jp := 87) (tgt := 86) C d_SR_faultOfPart_79 (by decide) (fun c161 k162 => ?_) (fun c161 k162 => ?_) ?_
          · refine j_iconst (v := (4 : Int32)) C d_SR_faultOfPart_86 (by decide) ?_
            exact k162
          · refine j_iconst (v := (0 : Int32)) C d_SR_faultOfPart_82 (by decide) ?_
            refine j_goto (tgt := 87) C d_SR_faultOfPart_83 (by decide) ?_
            exact k162
          exact k160
        exact j_ireti C (fun ρ h => leaf_eq h) d_SR_faultOfPart_87
      · refine j_iconst (v := (5 : Int32)) C d_SR_faultOfPart_45 (by decide) ?_
        exact j_ireti C (fun ρ h => leaf_eq h) d_SR_faultOfPart_46
    · refine j_icmp_le (tgt := 33) C d_SR_faultOfPart_22 (by decide) (fun c142 => ?_) (fun c142 => ?_)
      · exact H144
      · refine j_iload C d_SR_faultOfPart_25 5 rfl ?_
        refine j_iload_n C d_SR_faultOfPart_27 1 rfl ?_
        refine j_icmp_eq (tgt := 33) C d_SR_faultOfPart_28 (by decide) (fun c163 => ?_) (fun c163 => ?_)
        · exact H144
        · refine j_iconst (v := (4 : Int32)) C d_SR_faultOfPart_31 (by decide) ?_
          exact j_ireti C (fun ρ h => leaf_eq h) d_SR_faultOfPart_32
  · refine j_bipush (v := (6 : Int32)) C d_SR_faultOfPart_17 (by decide) ?_
    exact j_ireti C (fun ρ h => leaf_eq h) d_SR_faultOfPart_19
theorem c_SR_faultOfPart {l : Launch} {D : va_G} {G : GC} {ad : Nat → Nat} {k0 : Nat} (h0k : Is k0 9) (x1 : Int32) (x2 : Int32) (x3 : Int32) (x4 : Int32) (σ : Mem) : Ctr l D G ad ⟨"LineFrames$StreamReader", "faultOfPart", "(IIII)I"⟩ prog_10_method_20_code 7 (some .int) 2 42 [.ref (ad k0), .int x1, .int x2, .int x3, .int x4] σ (.inl (some (.int (f_SR_faultOfPart k0 x1 x2 x3 x4 σ))), σ) := ctr_J (cv := (cvI σ)) (E := f_SR_faultOfPart k0 x1 x2 x3 x4 σ) (by decide +kernel) (Nat.le_of_ble_eq_true rfl) rfl (fun F h C => by subst h; exact w_SR_faultOfPart C h0k x1 x2 x3 x4 σ)
/-! LineFrames$StreamReader takeScan (II)I -/
theorem d_SR_takeScan_0 : decode prog_10_method_19_code 0 = .ok (.aload_n 0, 1) := by decide +kernel
theorem d_SR_takeScan_1 : decode prog_10_method_19_code 1 = .ok (.getfield 72, 3) := by decide +kernel
theorem d_SR_takeScan_4 : decode prog_10_method_19_code 4 = .ok (.iload_n 1, 1) := by decide +kernel
theorem d_SR_takeScan_5 : decode prog_10_method_19_code 5 = .ok (.iconst 4, 1) := by decide +kernel
theorem d_SR_takeScan_6 : decode prog_10_method_19_code 6 = .ok (.iadd, 1) := by decide +kernel
theorem d_SR_takeScan_7 : decode prog_10_method_19_code 7 = .ok (.invokevirtual 123, 3) := by decide +kernel
theorem d_SR_takeScan_10 : decode prog_10_method_19_code 10 = .ok (.istore_n 3, 1) := by decide +kernel
theorem d_SR_takeScan_11 : decode prog_10_method_19_code 11 = .ok (.iload_n 2, 1) := by decide +kernel
theorem d_SR_takeScan_12 : decode prog_10_method_19_code 12 = .ok (.iconst 3, 1) := by decide +kernel
theorem d_SR_takeScan_13 : decode prog_10_method_19_code 13 = .ok (.if_icmp .lt 13, 3) := by decide +kernel
theorem d_SR_takeScan_16 : decode prog_10_method_19_code 16 = .ok (.iload_n 2, 1) := by decide +kernel
theorem d_SR_takeScan_17 : decode prog_10_method_19_code 17 = .ok (.bipush 6, 2) := by decide +kernel
theorem d_SR_takeScan_19 : decode prog_10_method_19_code 19 = .ok (.iconst 2, 1) := by decide +kernel
theorem d_SR_takeScan_20 : decode prog_10_method_19_code 20 = .ok (.iload_n 3, 1) := by decide +kernel
theorem d_SR_takeScan_21 : decode prog_10_method_19_code 21 = .ok (.imul, 1) := by decide +kernel
theorem d_SR_takeScan_22 : decode prog_10_method_19_code 22 = .ok (.iadd, 1) := by decide +kernel
theorem d_SR_takeScan_23 : decode prog_10_method_19_code 23 = .ok (.if_icmp .eq 5, 3) := by decide +kernel
theorem d_SR_takeScan_26 : decode prog_10_method_19_code 26 = .ok (.iconst 3, 1) := by decide +kernel
theorem d_SR_takeScan_27 : decode prog_10_method_19_code 27 = .ok (.ireturn, 1) := by decide +kernel
theorem d_SR_takeScan_28 : decode prog_10_method_19_code 28 = .ok (.iload_n 3, 1) := by decide +kernel
theorem d_SR_takeScan_29 : decode prog_10_method_19_code 29 = .ok (.iconst 1, 1) := by decide +kernel
theorem d_SR_takeScan_30 : decode prog_10_method_19_code 30 = .ok (.if_icmp .eq 16, 3) := by decide +kernel
theorem d_SR_takeScan_33 : decode prog_10_method_19_code 33 = .ok (.iload_n 3, 1) := by decide +kernel
theorem d_SR_takeScan_34 : decode prog_10_method_19_code 34 = .ok (.aload_n 0, 1) := by decide +kernel
theorem d_SR_takeScan_35 : decode prog_10_method_19_code 35 = .ok (.getfield 12, 3) := by decide +kernel
theorem d_SR_takeScan_38 : decode prog_10_method_19_code 38 = .ok (.getfield 136, 3) := by decide +kernel
theorem d_SR_takeScan_41 : decode prog_10_method_19_code 41 = .ok (.if_icmp .eq 5, 3) := by decide +kernel
theorem d_SR_takeScan_44 : decode prog_10_method_19_code 44 = .ok (.iconst 4, 1) := by decide +kernel
theorem d_SR_takeScan_45 : decode prog_10_method_19_code 45 = .ok (.ireturn, 1) := by decide +kernel
theorem d_SR_takeScan_46 : decode prog_10_method_19_code 46 = .ok (.iconst 0, 1) := by decide +kernel
theorem d_SR_takeScan_47 : decode prog_10_method_19_code 47 = .ok (.istore 4, 2) := by decide +kernel
theorem d_SR_takeScan_49 : decode prog_10_method_19_code 49 = .ok (.iload 4, 2) := by decide +kernel
theorem d_SR_takeScan_51 : decode prog_10_method_19_code 51 = .ok (.iload_n 3, 1) := by decide +kernel
theorem d_SR_takeScan_52 : decode prog_10_method_19_code 52 = .ok (.if_icmp .ge 56, 3) := by decide +kernel
theorem d_SR_takeScan_55 : decode prog_10_method_19_code 55 = .ok (.iload_n 1, 1) := by decide +kernel
theorem d_SR_takeScan_56 : decode prog_10_method_19_code 56 = .ok (.iconst 5, 1) := by decide +kernel
theorem d_SR_takeScan_57 : decode prog_10_method_19_code 57 = .ok (.iadd, 1) := by decide +kernel
theorem d_SR_takeScan_58 : decode prog_10_method_19_code 58 = .ok (.iconst 2, 1) := by decide +kernel
theorem d_SR_takeScan_59 : decode prog_10_method_19_code 59 = .ok (.iload 4, 2) := by decide +kernel
theorem d_SR_takeScan_61 : decode prog_10_method_19_code 61 = .ok (.imul, 1) := by decide +kernel
theorem d_SR_takeScan_62 : decode prog_10_method_19_code 62 = .ok (.iadd, 1) := by decide +kernel
theorem d_SR_takeScan_63 : decode prog_10_method_19_code 63 = .ok (.istore 5, 2) := by decide +kernel
theorem d_SR_takeScan_65 : decode prog_10_method_19_code 65 = .ok (.aload_n 0, 1) := by decide +kernel
theorem d_SR_takeScan_66 : decode prog_10_method_19_code 66 = .ok (.iload 4, 2) := by decide +kernel
theorem d_SR_takeScan_68 : decode prog_10_method_19_code 68 = .ok (.iload_n 3, 1) := by decide +kernel
theorem d_SR_takeScan_69 : decode prog_10_method_19_code 69 = .ok (.aload_n 0, 1) := by decide +kernel
theorem d_SR_takeScan_70 : decode prog_10_method_19_code 70 = .ok (.getfield 72, 3) := by decide +kernel
theorem d_SR_takeScan_73 : decode prog_10_method_19_code 73 = .ok (.iload 5, 2) := by decide +kernel
theorem d_SR_takeScan_75 : decode prog_10_method_19_code 75 = .ok (.invokevirtual 123, 3) := by decide +kernel
theorem d_SR_takeScan_78 : decode prog_10_method_19_code 78 = .ok (.aload_n 0, 1) := by decide +kernel
theorem d_SR_takeScan_79 : decode prog_10_method_19_code 79 = .ok (.getfield 72, 3) := by decide +kernel
theorem d_SR_takeScan_82 : decode prog_10_method_19_code 82 = .ok (.iload 5, 2) := by decide +kernel
theorem d_SR_takeScan_84 : decode prog_10_method_19_code 84 = .ok (.iconst 1, 1) := by decide +kernel
theorem d_SR_takeScan_85 : decode prog_10_method_19_code 85 = .ok (.iadd, 1) := by decide +kernel
theorem d_SR_takeScan_86 : decode prog_10_method_19_code 86 = .ok (.invokevirtual 123, 3) := by decide +kernel
theorem d_SR_takeScan_89 : decode prog_10_method_19_code 89 = .ok (.invokevirtual 220, 3) := by decide +kernel
theorem d_SR_takeScan_92 : decode prog_10_method_19_code 92 = .ok (.istore 6, 2) := by decide +kernel
theorem d_SR_takeScan_94 : decode prog_10_method_19_code 94 = .ok (.iload 6, 2) := by decide +kernel
theorem d_SR_takeScan_96 : decode prog_10_method_19_code 96 = .ok (.ifCond .eq 6, 3) := by decide +kernel
theorem d_SR_takeScan_99 : decode prog_10_method_19_code 99 = .ok (.iload 6, 2) := by decide +kernel
theorem d_SR_takeScan_101 : decode prog_10_method_19_code 101 = .ok (.ireturn, 1) := by decide +kernel
theorem d_SR_takeScan_102 : decode prog_10_method_19_code 102 = .ok (.iinc 4 1, 3) := by decide +kernel
theorem d_SR_takeScan_105 : decode prog_10_method_19_code 105 = .ok (.goto (-56), 3) := by decide +kernel
theorem d_SR_takeScan_108 : decode prog_10_method_19_code 108 = .ok (.iload_n 1, 1) := by decide +kernel
theorem d_SR_takeScan_109 : decode prog_10_method_19_code 109 = .ok (.iconst 5, 1) := by decide +kernel
theorem d_SR_takeScan_110 : decode prog_10_method_19_code 110 = .ok (.iadd, 1) := by decide +kernel
theorem d_SR_takeScan_111 : decode prog_10_method_19_code 111 = .ok (.iconst 2, 1) := by decide +kernel
theorem d_SR_takeScan_112 : decode prog_10_method_19_code 112 = .ok (.iload_n 3, 1) := by decide +kernel
theorem d_SR_takeScan_113 : decode prog_10_method_19_code 113 = .ok (.imul, 1) := by decide +kernel
theorem d_SR_takeScan_114 : decode prog_10_method_19_code 114 = .ok (.iadd, 1) := by decide +kernel
theorem d_SR_takeScan_115 : decode prog_10_method_19_code 115 = .ok (.istore 4, 2) := by decide +kernel
theorem d_SR_takeScan_117 : decode prog_10_method_19_code 117 = .ok (.aload_n 0, 1) := by decide +kernel
theorem d_SR_takeScan_118 : decode prog_10_method_19_code 118 = .ok (.getfield 72, 3) := by decide +kernel
theorem d_SR_takeScan_121 : decode prog_10_method_19_code 121 = .ok (.iload 4, 2) := by decide +kernel
theorem d_SR_takeScan_123 : decode prog_10_method_19_code 123 = .ok (.iconst 1, 1) := by decide +kernel
theorem d_SR_takeScan_124 : decode prog_10_method_19_code 124 = .ok (.iadd, 1) := by decide +kernel
theorem d_SR_takeScan_125 : decode prog_10_method_19_code 125 = .ok (.invokevirtual 123, 3) := by decide +kernel
theorem d_SR_takeScan_128 : decode prog_10_method_19_code 128 = .ok (.istore 5, 2) := by decide +kernel
theorem d_SR_takeScan_130 : decode prog_10_method_19_code 130 = .ok (.iload_n 3, 1) := by decide +kernel
theorem d_SR_takeScan_131 : decode prog_10_method_19_code 131 = .ok (.iconst 1, 1) := by decide +kernel
theorem d_SR_takeScan_132 : decode prog_10_method_19_code 132 = .ok (.if_icmp .ne 16, 3) := by decide +kernel
theorem d_SR_takeScan_135 : decode prog_10_method_19_code 135 = .ok (.iload 5, 2) := by decide +kernel
theorem d_SR_takeScan_137 : decode prog_10_method_19_code 137 = .ok (.ifCond .ne 7, 3) := by decide +kernel
theorem d_SR_takeScan_140 : decode prog_10_method_19_code 140 = .ok (.iconst 1, 1) := by decide +kernel
theorem d_SR_takeScan_141 : decode prog_10_method_19_code 141 = .ok (.goto 24, 3) := by decide +kernel
theorem d_SR_takeScan_144 : decode prog_10_method_19_code 144 = .ok (.iconst 0, 1) := by decide +kernel
theorem d_SR_takeScan_145 : decode prog_10_method_19_code 145 = .ok (.goto 20, 3) := by decide +kernel
theorem d_SR_takeScan_148 : decode prog_10_method_19_code 148 = .ok (.iload 5, 2) := by decide +kernel
theorem d_SR_takeScan_150 : decode prog_10_method_19_code 150 = .ok (.iconst 1, 1) := by decide +kernel
theorem d_SR_takeScan_151 : decode prog_10_method_19_code 151 = .ok (.if_icmp .eq 9, 3) := by decide +kernel
theorem d_SR_takeScan_154 : decode prog_10_method_19_code 154 = .ok (.iload 5, 2) := by decide +kernel
theorem d_SR_takeScan_156 : decode prog_10_method_19_code 156 = .ok (.iconst 2, 1) := by decide +kernel
theorem d_SR_takeScan_157 : decode prog_10_method_19_code 157 = .ok (.if_icmp .ne 7, 3) := by decide +kernel
theorem d_SR_takeScan_160 : decode prog_10_method_19_code 160 = .ok (.iconst 1, 1) := by decide +kernel
theorem d_SR_takeScan_161 : decode prog_10_method_19_code 161 = .ok (.goto 4, 3) := by decide +kernel
theorem d_SR_takeScan_164 : decode prog_10_method_19_code 164 = .ok (.iconst 0, 1) := by decide +kernel
theorem d_SR_takeScan_165 : decode prog_10_method_19_code 165 = .ok (.istore 6, 2) := by decide +kernel
theorem d_SR_takeScan_167 : decode prog_10_method_19_code 167 = .ok (.aload_n 0, 1) := by decide +kernel
theorem d_SR_takeScan_168 : decode prog_10_method_19_code 168 = .ok (.getfield 72, 3) := by decide +kernel
theorem d_SR_takeScan_171 : decode prog_10_method_19_code 171 = .ok (.iload 4, 2) := by decide +kernel
theorem d_SR_takeScan_173 : decode prog_10_method_19_code 173 = .ok (.invokevirtual 123, 3) := by decide +kernel
theorem d_SR_takeScan_176 : decode prog_10_method_19_code 176 = .ok (.iconst 3, 1) := by decide +kernel
theorem d_SR_takeScan_177 : decode prog_10_method_19_code 177 = .ok (.if_icmp .gt 22, 3) := by decide +kernel
theorem d_SR_takeScan_180 : decode prog_10_method_19_code 180 = .ok (.iload 6, 2) := by decide +kernel
theorem d_SR_takeScan_182 : decode prog_10_method_19_code 182 = .ok (.ifCond .eq 17, 3) := by decide +kernel
theorem d_SR_takeScan_185 : decode prog_10_method_19_code 185 = .ok (.aload_n 0, 1) := by decide +kernel
theorem d_SR_takeScan_186 : decode prog_10_method_19_code 186 = .ok (.getfield 72, 3) := by decide +kernel
theorem d_SR_takeScan_189 : decode prog_10_method_19_code 189 = .ok (.iload 4, 2) := by decide +kernel
theorem d_SR_takeScan_191 : decode prog_10_method_19_code 191 = .ok (.iconst 2, 1) := by decide +kernel
theorem d_SR_takeScan_192 : decode prog_10_method_19_code 192 = .ok (.iadd, 1) := by decide +kernel
theorem d_SR_takeScan_193 : decode prog_10_method_19_code 193 = .ok (.invokevirtual 123, 3) := by decide +kernel
theorem d_SR_takeScan_196 : decode prog_10_method_19_code 196 = .ok (.ifCond .eq 5, 3) := by decide +kernel
theorem d_SR_takeScan_199 : decode prog_10_method_19_code 199 = .ok (.iconst 4, 1) := by decide +kernel
theorem d_SR_takeScan_200 : decode prog_10_method_19_code 200 = .ok (.ireturn, 1) := by decide +kernel
theorem d_SR_takeScan_201 : decode prog_10_method_19_code 201 = .ok (.aload_n 0, 1) := by decide +kernel
theorem d_SR_takeScan_202 : decode prog_10_method_19_code 202 = .ok (.aload_n 0, 1) := by decide +kernel
theorem d_SR_takeScan_203 : decode prog_10_method_19_code 203 = .ok (.getfield 72, 3) := by decide +kernel
theorem d_SR_takeScan_206 : decode prog_10_method_19_code 206 = .ok (.iload_n 1, 1) := by decide +kernel
theorem d_SR_takeScan_207 : decode prog_10_method_19_code 207 = .ok (.iconst 5, 1) := by decide +kernel
theorem d_SR_takeScan_208 : decode prog_10_method_19_code 208 = .ok (.iadd, 1) := by decide +kernel
theorem d_SR_takeScan_209 : decode prog_10_method_19_code 209 = .ok (.invokevirtual 123, 3) := by decide +kernel
theorem d_SR_takeScan_212 : decode prog_10_method_19_code 212 = .ok (.iconst 1, 1) := by decide +kernel
theorem d_SR_takeScan_213 : decode prog_10_method_19_code 213 = .ok (.isub, 1) := by decide +kernel
theorem d_SR_takeScan_214 : decode prog_10_method_19_code 214 = .ok (.putfield 54, 3) := by decide +kernel
theorem d_SR_takeScan_217 : decode prog_10_method_19_code 217 = .ok (.aload_n 0, 1) := by decide +kernel
theorem d_SR_takeScan_218 : decode prog_10_method_19_code 218 = .ok (.iload_n 3, 1) := by decide +kernel
theorem d_SR_takeScan_219 : decode prog_10_method_19_code 219 = .ok (.putfield 57, 3) := by decide +kernel
theorem d_SR_takeScan_222 : decode prog_10_method_19_code 222 = .ok (.aload_n 0, 1) := by decide +kernel
theorem d_SR_takeScan_223 : decode prog_10_method_19_code 223 = .ok (.aload_n 0, 1) := by decide +kernel
theorem d_SR_takeScan_224 : decode prog_10_method_19_code 224 = .ok (.getfield 72, 3) := by decide +kernel
theorem d_SR_takeScan_227 : decode prog_10_method_19_code 227 = .ok (.iload 4, 2) := by decide +kernel
theorem d_SR_takeScan_229 : decode prog_10_method_19_code 229 = .ok (.invokevirtual 123, 3) := by decide +kernel
theorem d_SR_takeScan_232 : decode prog_10_method_19_code 232 = .ok (.putfield 60, 3) := by decide +kernel
theorem d_SR_takeScan_235 : decode prog_10_method_19_code 235 = .ok (.aload_n 0, 1) := by decide +kernel
theorem d_SR_takeScan_236 : decode prog_10_method_19_code 236 = .ok (.iload 5, 2) := by decide +kernel
theorem d_SR_takeScan_238 : decode prog_10_method_19_code 238 = .ok (.putfield 63, 3) := by decide +kernel
theorem d_SR_takeScan_241 : decode prog_10_method_19_code 241 = .ok (.iconst 0, 1) := by decide +kernel
theorem d_SR_takeScan_242 : decode prog_10_method_19_code 242 = .ok (.ireturn, 1) := by decide +kernel
def L_SR_takeScan_49 (r0 : Nat) (b1 : Int32) (b2 : Int32) (b3 : Int32) (σ : Mem) : Nat → Int32 →  Option ((Int32) ⊕ Int32)
  | 0, _ => none
  | n + 1, a4 =>
  if b3 ≤ a4 then
  some (.inl a4)
  else
  lt ((b1 + (5 : Int32)) + ((2 : Int32) * a4)) fun v236 =>
  lt (f_SR_faultOfPart r0 a4 b3 (f_BY_get (wtg r0 0) v236 σ) (f_BY_get (wtg r0 0) (v236 + (1 : Int32)) σ) σ) fun v237 =>
  if v237 = 0 then
  L_SR_takeScan_49 r0 b1 b2 b3 σ n (a4 + (1 : Int32))
  else
  some (.inr v237)
def f_SR_takeScan (k0 : Nat) (x1 : Int32) (x2 : Int32) (σ : Mem) : Option (Int32 × Mem) :=
  lt (f_BY_get (wtg k0 0) (x1 + (4 : Int32)) σ) fun v1 =>
  if x2 < (3 : Int32) then
  some ((3 : Int32), σ)
  else
  if x2 = ((6 : Int32) + ((2 : Int32) * v1)) then
  lt (
  (L_SR_takeScan_49 k0 x1 x2 v1 σ 9999 (0 : Int32)).bind fun q239_ => ecase q239_ (fun q239 =>
  lt ((x1 + (5 : Int32)) + ((2 : Int32) * v1)) fun v240 =>
  lt (f_BY_get (wtg k0 0) (v240 + (1 : Int32)) σ) fun v241 =>
  lt (if v1 = (1 : Int32) then (if v241 = 0 then (1 : Int32) else (0 : Int32)) else (if v241 = (1 : Int32) then (1 : Int32) else (if v241 = (2 : Int32) then (1 : Int32) else (0 : Int32)))) fun v250 =>
  if (3 : Int32) < (f_BY_get (wtg k0 0) v240 σ) then
  some ((4 : Int32), σ)
  else
  if v250 = 0 then
  some ((4 : Int32), σ)
  else
  if (f_BY_get (wtg k0 0) (v240 + (2 : Int32)) σ) = 0 then
  lt (mput σ k0 8 ((f_BY_get (wtg k0 0) (x1 + (5 : Int32)) σ) - (1 : Int32))) fun σ268 =>
  lt (mput σ268 k0 9 v1) fun σ269 =>
  lt (mput σ269 k0 10 (f_BY_get (wtg k0 0) v240 σ269)) fun σ270 =>
  lt (mput σ270 k0 11 v241) fun σ271 =>
  some ((0 : Int32), σ271)
  else
  some ((4 : Int32), σ)) (fun e272 => some (e272, σ))) fun K233 =>
  if v1 = (1 : Int32) then
  K233
  else
  if v1 = (σ (wtg k0 1) 8) then
  K233
  else
  some ((4 : Int32), σ)
  else
  some ((3 : Int32), σ)
set_option maxHeartbeats 4000000 in
set_option maxRecDepth 100000 in
theorem wL_SR_takeScan_49 {F : Fx} (C : Ctx F prog_10_method_19_code 7 "LineFrames$StreamReader" (some .int) 3 68) {cv : Option ((Int32) ⊕ Int32) → Option Rs} (h0 : cv none = none) (r0 : Nat) (hr0 : Is r0 9) (b1 : Int32) (b2 : Int32) (b3 : Int32) (σ : Mem) (hR : ∀ (e : Int32) (ρ : Rs), cv (some (.inr e)) = some ρ → ρ = (.inl (some (.int e)), σ)) (hex : ∀ q : Int32, J F 7 cv (some (.inl q)) σ 108 [(0, .ref (fad F r0)), (1, .int b1), (2, .int b2), (3, .int b3), (4, .int q)] []) : ∀ (n : Nat) (a4 : Int32), J F 7 cv (L_SR_takeScan_49 r0 b1 b2 b3 σ n a4) σ 49 [(0, .ref (fad F r0)), (1, .int b1), (2, .int b2), (3, .int b3), (4, .int a4)] [] := by
  intro n
  induction n with
  | zero => intro a4 hE; rw [L_SR_takeScan_49, h0] at hE; cases hE
  | succ n ih =>
    intro a4
    rw [L_SR_takeScan_49]
    refine j_iload C d_SR_takeScan_49 4 rfl ?_
    refine j_iload_n C d_SR_takeScan_51 3 rfl ?_
    refine j_icmp_ge (tgt := 108) C d_SR_takeScan_52 (by decide) (fun c235 => ?_) (fun c235 => ?_)
    · exact hex a4
    · refine j_iload_n C d_SR_takeScan_55 1 rfl ?_
      refine j_iconst (v := (5 : Int32)) C d_SR_takeScan_56 (by decide) ?_
      refine j_iadd C d_SR_takeScan_57 ?_
      refine j_iconst (v := (2 : Int32)) C d_SR_takeScan_58 (by decide) ?_
      refine j_iload C d_SR_takeScan_59 4 rfl ?_
      refine j_imul C d_SR_takeScan_61 ?_
      refine j_iadd C d_SR_takeScan_62 ?_
      refine j_nm (fun v236 v236_e => ?_)
      refine j_istore (lv9 := [(0, .ref (fad F r0)), (1, .int b1), (2, .int b2), (3, .int b3), (4, .int a4), (5, .int v236)]) C d_SR_takeScan_63 rfl rfl (by decide) ?_
      refine j_aload_n C d_SR_takeScan_65 0 rfl ?_
      refine j_iload C d_SR_takeScan_66 4 rfl ?_
      refine j_iload_n C d_SR_takeScan_68 3 rfl ?_
      refine j_aload_n C d_SR_takeScan_69 0 rfl ?_
      refine j_getR C hr0 fl_SR_72 rfl d_SR_takeScan_70 ?_
      refine j_iload C d_SR_takeScan_73 5 rfl ?_
      refine j_callVi C mv_SR_123 [.int v236] [.int b3, .int a4, .ref (fad F r0)] (tg_9_0 _ hr0) (c_BY_get (tg_9_0 _ hr0) v236 σ) rfl rfl (by decide) (Nat.le_of_ble_eq_true rfl) d_SR_takeScan_75 ?_
      refine j_aload_n C d_SR_takeScan_78 0 rfl ?_
      refine j_getR C hr0 fl_SR_72 rfl d_SR_takeScan_79 ?_
      refine j_iload C d_SR_takeScan_82 5 rfl ?_
      refine j_iconst (v := (1 : Int32)) C d_SR_takeScan_84 (by decide) ?_
      refine j_iadd C d_SR_takeScan_85 ?_
      refine j_callVi C mv_SR_123 [.int (v236 + (1 : Int32))] [.int (f_BY_get (wtg r0 0) v236 σ), .int b3, .int a4, .ref (fad F r0)] (tg_9_0 _ hr0) (c_BY_get (tg_9_0 _ hr0) (v236 + (1 : Int32)) σ) rfl rfl (by decide) (Nat.le_of_ble_eq_true rfl) d_SR_takeScan_86 ?_
      refine j_callVi C mv_SR_220 [.int a4, .int b3, .int (f_BY_get (wtg r0 0) v236 σ), .int (f_BY_get (wtg r0 0) (v236 + (1 : Int32)) σ)] [] hr0 (c_SR_faultOfPart hr0 a4 b3 (f_BY_get (wtg r0 0) v236 σ) (f_BY_get (wtg r0 0) (v236 + (1 : Int32)) σ) σ) rfl rfl (by decide) (Nat.le_of_ble_eq_true rfl) d_SR_takeScan_89 ?_
      refine j_nm (fun v237 v237_e => ?_)
      refine j_istore (lv9 := [(0, .ref (fad F r0)), (1, .int b1), (2, .int b2), (3, .int b3), (4, .int a4), (5, .int v236), (6, .int v237)]) C d_SR_takeScan_92 rfl rfl (by decide) ?_
      refine j_iload C d_SR_takeScan_94 6 rfl ?_
      refine j_if_eq (tgt := 102) C d_SR_takeScan_96 (by decide) (fun c238 => ?_) (fun c238 => ?_)
      · refine j_iinc (v := (a4 + (1 : Int32))) (lv9 := [(0, .ref (fad F r0)), (1, .int b1), (2, .int b2), (3, .int b3), (4, .int (a4 + (1 : Int32))), (5, .int v236), (6, .int v237)]) C d_SR_takeScan_102 4 rfl rfl rfl rfl (by decide) ?_
        refine j_goto (tgt := 49) C d_SR_takeScan_105 (by decide) ?_
        refine j_sub (lv9 := [(0, .ref (fad F r0)), (1, .int b1), (2, .int b2), (3, .int b3), (4, .int (a4 + (1 : Int32)))]) [0, 1, 2, 3, 4] rfl ?_
        exact ih (a4 + (1 : Int32))
      · refine j_iload C d_SR_takeScan_99 6 rfl ?_
        exact j_ireti C (hR v237) d_SR_takeScan_101
set_option maxHeartbeats 4000000 in
set_option maxRecDepth 100000 in
theorem w_SR_takeScan {F : Fx} (C : Ctx F prog_10_method_19_code 7 "LineFrames$StreamReader" (some .int) 3 68) {k0 : Nat} (h0k : Is k0 9) (x1 : Int32) (x2 : Int32) (σ : Mem) : J F 7 (cvO cvIM) (f_SR_takeScan k0 x1 x2 σ) σ 0 [(0, .ref (fad F k0)), (1, .int x1), (2, .int x2)] [] := by
  unfold f_SR_takeScan
  refine j_aload_n C d_SR_takeScan_0 0 rfl ?_
  refine j_getR C h0k fl_SR_72 rfl d_SR_takeScan_1 ?_
  refine j_iload_n C d_SR_takeScan_4 1 rfl ?_
  refine j_iconst (v := (4 : Int32)) C d_SR_takeScan_5 (by decide) ?_
  refine j_iadd C d_SR_takeScan_6 ?_
  refine j_callVi C mv_SR_123 [.int (x1 + (4 : Int32))] [] (tg_9_0 _ h0k) (c_BY_get (tg_9_0 _ h0k) (x1 + (4 : Int32)) σ) rfl rfl (by decide) (Nat.le_of_ble_eq_true rfl) d_SR_takeScan_7 ?_
  refine j_nm (fun v1 v1_e => ?_)
  refine j_istore_n (lv9 := [(0, .ref (fad F k0)), (1, .int x1), (2, .int x2), (3, .int v1)]) C d_SR_takeScan_10 rfl rfl (by decide) ?_
  refine j_iload_n C d_SR_takeScan_11 2 rfl ?_
  refine j_iconst (v := (3 : Int32)) C d_SR_takeScan_12 (by decide) ?_
  refine j_icmp_lt (tgt := 26) C d_SR_takeScan_13 (by decide) (fun c10 => ?_) (fun c10 => ?_)
  · refine j_iconst (v := (3 : Int32)) C d_SR_takeScan_26 (by decide) ?_
    exact j_ireti C (fun ρ h => leaf_eq h) d_SR_takeScan_27
  · refine j_iload_n C d_SR_takeScan_16 2 rfl ?_
    refine j_bipush (v := (6 : Int32)) C d_SR_takeScan_17 (by decide) ?_
    refine j_iconst (v := (2 : Int32)) C d_SR_takeScan_19 (by decide) ?_
    refine j_iload_n C d_SR_takeScan_20 3 rfl ?_
    refine j_imul C d_SR_takeScan_21 ?_
    refine j_iadd C d_SR_takeScan_22 ?_
    refine j_icmp_eq (tgt := 28) C d_SR_takeScan_23 (by decide) (fun c11 => ?_) (fun c11 => ?_)
    · refine j_iload_n C d_SR_takeScan_28 3 rfl ?_
      refine j_iconst (v := (1 : Int32)) C d_SR_takeScan_29 (by decide) ?_
      refine j_join0 46 ([(0, .ref (fad F k0)), (1, .int x1), (2, .int x2), (3, .int v1)]) ([]) (?_) (fun K233 H234 => ?_)
      · refine j_iconst (v := (0 : Int32)) C d_SR_takeScan_46 (by decide) ?_
        refine j_istore (lv9 := [(0, .ref (fad F k0)), (1, .int x1), (2, .int x2), (3, .int v1), (4, .int (0 : Int32))]) C d_SR_takeScan_47 rfl rfl (by decide) ?_
        refine j_loop (wL_SR_takeScan_49 C rfl k0 h0k x1 x2 v1 σ (fun e272 ρ h => leaf_eq h) (fun q239 => j_some ?_) 9999 (0 : Int32))
        refine j_iload_n C d_SR_takeScan_108 1 rfl ?_
        refine j_iconst (v := (5 : Int32)) C d_SR_takeScan_109 (by decide) ?_
        refine j_iadd C d_SR_takeScan_110 ?_
        refine j_iconst (v := (2 : Int32)) C d_SR_takeScan_111 (by decide) ?_
        refine j_iload_n C d_SR_takeScan_112 3 rfl ?_
        refine j_imul C d_SR_takeScan_113 ?_
        refine j_iadd C d_SR_takeScan_114 ?_
        refine j_nm (fun v240 v240_e => ?_)
        refine j_istore (lv9 := [(0, .ref (fad F k0)), (1, .int x1), (2, .int x2), (3, .int v1), (4, .int v240)]) C d_SR_takeScan_115 rfl rfl (by decide) ?_
        refine j_aload_n C d_SR_takeScan_117 0 rfl ?_
        refine j_getR C h0k fl_SR_72 rfl d_SR_takeScan_118 ?_
        refine j_iload C d_SR_takeScan_121 4 rfl ?_
        refine j_iconst (v := (1 : Int32)) C d_SR_takeScan_123 (by decide) ?_
        refine j_iadd C d_SR_takeScan_124 ?_
        refine j_callVi C mv_SR_123 [.int (v240 + (1 : Int32))] [] (tg_9_0 _ h0k) (c_BY_get (tg_9_0 _ h0k) (v240 + (1 : Int32)) σ) rfl rfl (by decide) (Nat.le_of_ble_eq_true rfl) d_SR_takeScan_125 ?_
        refine j_nm (fun v241 v241_e => ?_)
        refine j_istore (lv9 := [(0, .ref (fad F k0)), (1, .int x1), (2, .int x2), (3, .int v1), (4, .int v240), (5, .int v241)]) C d_SR_takeScan_128 rfl rfl (by decide) ?_
        refine j_iload_n C d_SR_takeScan_130 3 rfl ?_
        refine j_iconst (v := (1 : Int32)) C d_SR_takeScan_131 (by decide) ?_
        refine d_icmp_ne (a := (if v241 = 0 then (1 : Int32) else (0 : Int32))) (b := (if v241 = (1 : Int32) then (1 : Int32) else (if v241 = (2 : Int32) then (1 : Int32) else (0 : Int32)))) (jp := 165) (tgt := 148) C d_SR_takeScan_132 (by decide) (fun c242 k243 => ?_) (fun c242 k243 => ?_) ?_
        · refine j_iload C d_SR_takeScan_148 5 rfl ?_
          refine j_iconst (v := (1 : Int32)) C d_SR_takeScan_150 (by decide) ?_
          refine d_icmp_eq (a := (1 : Int32)) (b := (if v241 = (2 : Int32) then (1 : Int32) else (0 : Int32))) (jp := 165) (tgt := 160) C d_SR_takeScan_151 (by decide) (fun c244 k245 => ?_) (fun c244 k245 => ?_) ?_
          · refine j_iconst (v := (1 : Int32)) C d_SR_takeScan_160 (by decide) ?_
            refine j_goto (tgt := 165) C d_SR_takeScan_161 (by decide) ?_
            exact k245
          · refine j_iload C d_SR_takeScan_154 5 rfl ?_
            refine j_iconst (v := (2 : Int32)) C d_SR_takeScan_156 (by decide) ?_
            refine d_icmp_ne (a := (1 : Int32)) (b := (0 : Int32)) (jp := 165) (tgt := 164) C d_SR_takeScan_157 (by decide) (fun c246 k247 => ?_) (fun c246 k247 => ?_) ?_
            · refine j_iconst (v := (0 : Int32)) C d_SR_takeScan_164 (by decide) ?_
              exact k247
            · refine j_iconst (v := (1 : Int32)) C d_SR_takeScan_160 (by decide) ?_
              refine j_goto (tgt := 165) C d_SR_takeScan_161 (by decide) ?_
              exact k247
            exact k245
          exact k243
        · refine j_iload C d_SR_takeScan_135 5 rfl ?_
          refine d_if_ne (a := (1 : Int32)) (b := (0 : Int32)) (jp := 165) (tgt := 144) C d_SR_takeScan_137 (by decide) (fun c248 k249 => ?_) (fun c248 k249 => ?_) ?_
          · refine j_iconst (v := (0 : Int32)) C d_SR_takeScan_144 (by decide) ?_
            refine j_goto (tgt := 165) C d_SR_takeScan_145 (by decide) ?_
            exact k249
          · refine j_iconst (v := (1 : Int32)) C d_SR_takeScan_140 (by decide) ?_
            refine j_goto (tgt := 165) C d_SR_takeScan_141 (by decide) ?_
            exact k249
          exact k243
        refine j_nm (fun v250 v250_e => ?_)
        refine j_istore (lv9 := [(0, .ref (fad F k0)), (1, .int x1), (2, .int x2), (3, .int v1), (4, .int v240), (5, .int v241), (6, .int v250)]) C d_SR_takeScan_165 rfl rfl (by decide) ?_
        refine j_aload_n C d_SR_takeScan_167 0 rfl ?_
        refine j_getR C h0k fl_SR_72 rfl d_SR_takeScan_168 ?_
        refine j_iload C d_SR_takeScan_171 4 rfl ?_
        refine j_callVi C mv_SR_123 [.int v240] [] (tg_9_0 _ h0k) (c_BY_get (tg_9_0 _ h0k) v240 σ) rfl rfl (by decide) (Nat.le_of_ble_eq_true rfl) d_SR_takeScan_173 ?_
        refine j_iconst (v := (3 : Int32)) C d_SR_takeScan_176 (by decide) ?_
        refine j_icmp_gt (tgt := 199) C d_SR_takeScan_177 (by decide) (fun c259 => ?_) (fun c259 => ?_)
        · refine j_iconst (v := (4 : Int32)) C d_SR_takeScan_199 (by decide) ?_
          exact j_ireti C (fun ρ h => leaf_eq h) d_SR_takeScan_200
        · refine j_iload C d_SR_takeScan_180 6 rfl ?_
          refine j_if_eq (tgt := 199) C d_SR_takeScan_182 (by decide) (fun c266 => ?_) (fun c266 => ?_)
          · refine j_iconst (v := (4 : Int32)) C d_SR_takeScan_199 (by decide) ?_
            exact j_ireti C (fun ρ h => leaf_eq h) d_SR_takeScan_200
          · refine j_aload_n C d_SR_takeScan_185 0 rfl ?_
            refine j_getR C h0k fl_SR_72 rfl d_SR_takeScan_186 ?_
            refine j_iload C d_SR_takeScan_189 4 rfl ?_
            refine j_iconst (v := (2 : Int32)) C d_SR_takeScan_191 (by decide) ?_
            refine j_iadd C d_SR_takeScan_192 ?_
            refine j_callVi C mv_SR_123 [.int (v240 + (2 : Int32))] [] (tg_9_0 _ h0k) (c_BY_get (tg_9_0 _ h0k) (v240 + (2 : Int32)) σ) rfl rfl (by decide) (Nat.le_of_ble_eq_true rfl) d_SR_takeScan_193 ?_
            refine j_if_eq (tgt := 201) C d_SR_takeScan_196 (by decide) (fun c267 => ?_) (fun c267 => ?_)
            · refine j_aload_n C d_SR_takeScan_201 0 rfl ?_
              refine j_aload_n C d_SR_takeScan_202 0 rfl ?_
              refine j_getR C h0k fl_SR_72 rfl d_SR_takeScan_203 ?_
              refine j_iload_n C d_SR_takeScan_206 1 rfl ?_
              refine j_iconst (v := (5 : Int32)) C d_SR_takeScan_207 (by decide) ?_
              refine j_iadd C d_SR_takeScan_208 ?_
              refine j_callVi C mv_SR_123 [.int (x1 + (5 : Int32))] [.ref (fad F k0)] (tg_9_0 _ h0k) (c_BY_get (tg_9_0 _ h0k) (x1 + (5 : Int32)) σ) rfl rfl (by decide) (Nat.le_of_ble_eq_true rfl) d_SR_takeScan_209 ?_
              refine j_iconst (v := (1 : Int32)) C d_SR_takeScan_212 (by decide) ?_
              refine j_isub C d_SR_takeScan_213 ?_
              refine j_put C h0k fl_SR_54 fw_9_8 rfl rfl rfl d_SR_takeScan_214 (fun σ268 => ?_)
              refine j_aload_n C d_SR_takeScan_217 0 rfl ?_
              refine j_iload_n C d_SR_takeScan_218 3 rfl ?_
              refine j_put C h0k fl_SR_57 fw_9_9 rfl rfl rfl d_SR_takeScan_219 (fun σ269 => ?_)
              refine j_aload_n C d_SR_takeScan_222 0 rfl ?_
              refine j_aload_n C d_SR_takeScan_223 0 rfl ?_
              refine j_getR C h0k fl_SR_72 rfl d_SR_takeScan_224 ?_
              refine j_iload C d_SR_takeScan_227 4 rfl ?_
              refine j_callVi C mv_SR_123 [.int v240] [.ref (fad F k0)] (tg_9_0 _ h0k) (c_BY_get (tg_9_0 _ h0k) v240 σ269) rfl rfl (by decide) (Nat.le_of_ble_eq_true rfl) d_SR_takeScan_229 ?_
              refine j_put C h0k fl_SR_60 fw_9_10 rfl rfl rfl d_SR_takeScan_232 (fun σ270 => ?_)
              refine j_aload_n C d_SR_takeScan_235 0 rfl ?_
              refine j_iload C d_SR_takeScan_236 5 rfl ?_
              refine j_put C h0k fl_SR_63 fw_9_11 rfl rfl rfl d_SR_takeScan_238 (fun σ271 => ?_)
              refine j_iconst (v := (0 : Int32)) C d_SR_takeScan_241 (by decide) ?_
              exact j_ireti C (fun ρ h => leaf_eq h) d_SR_takeScan_242
            · refine j_iconst (v := (4 : Int32)) C d_SR_takeScan_199 (by decide) ?_
              exact j_ireti C (fun ρ h => leaf_eq h) d_SR_takeScan_200
      · refine j_icmp_eq (tgt := 46) C d_SR_takeScan_30 (by decide) (fun c232 => ?_) (fun c232 => ?_)
        · exact H234
        · refine j_iload_n C d_SR_takeScan_33 3 rfl ?_
          refine j_aload_n C d_SR_takeScan_34 0 rfl ?_
          refine j_getR C h0k fl_SR_12 rfl d_SR_takeScan_35 ?_
          refine j_getI C (tg_9_1 _ h0k) fl_SR_136 rfl d_SR_takeScan_38 ?_
          refine j_icmp_eq (tgt := 46) C d_SR_takeScan_41 (by decide) (fun c273 => ?_) (fun c273 => ?_)
          · exact H234
          · refine j_iconst (v := (4 : Int32)) C d_SR_takeScan_44 (by decide) ?_
            exact j_ireti C (fun ρ h => leaf_eq h) d_SR_takeScan_45
    · refine j_iconst (v := (3 : Int32)) C d_SR_takeScan_26 (by decide) ?_
      exact j_ireti C (fun ρ h => leaf_eq h) d_SR_takeScan_27
theorem c_SR_takeScan {l : Launch} {D : va_G} {G : GC} {ad : Nat → Nat} {k0 : Nat} (h0k : Is k0 9) (x1 : Int32) (x2 : Int32) (σ : Mem) {q : Int32 × Mem} (hq : f_SR_takeScan k0 x1 x2 σ = some q) : Ctr l D G ad ⟨"LineFrames$StreamReader", "takeScan", "(II)I"⟩ prog_10_method_19_code 7 (some .int) 3 68 [.ref (ad k0), .int x1, .int x2] σ (.inl (some (.int q.1)), q.2) := ctr_J (cv := (cvO cvIM)) (E := f_SR_takeScan k0 x1 x2 σ) (by decide +kernel) (Nat.le_of_ble_eq_true rfl) (by rw [hq]; rfl) (fun F h C => by subst h; exact w_SR_takeScan C h0k x1 x2 σ)
/-! LineFrames$Notes full ()Z -/
theorem d_NO_full_0 : decode prog_7_method_3_code 0 = .ok (.aload_n 0, 1) := by decide +kernel
theorem d_NO_full_1 : decode prog_7_method_3_code 1 = .ok (.getfield 26, 3) := by decide +kernel
theorem d_NO_full_4 : decode prog_7_method_3_code 4 = .ok (.bipush 6, 2) := by decide +kernel
theorem d_NO_full_6 : decode prog_7_method_3_code 6 = .ok (.if_icmp .lt 7, 3) := by decide +kernel
theorem d_NO_full_9 : decode prog_7_method_3_code 9 = .ok (.iconst 1, 1) := by decide +kernel
theorem d_NO_full_10 : decode prog_7_method_3_code 10 = .ok (.goto 4, 3) := by decide +kernel
theorem d_NO_full_13 : decode prog_7_method_3_code 13 = .ok (.iconst 0, 1) := by decide +kernel
theorem d_NO_full_14 : decode prog_7_method_3_code 14 = .ok (.ireturn, 1) := by decide +kernel
def f_NO_full (k0 : Nat) (σ : Mem) : Int32 :=
  (if (σ k0 3) < (6 : Int32) then (0 : Int32) else (1 : Int32))
set_option maxHeartbeats 4000000 in
set_option maxRecDepth 100000 in
theorem w_NO_full {F : Fx} (C : Ctx F prog_7_method_3_code 1 "LineFrames$Notes" (some .boolean) 0 0) {k0 : Nat} (h0k : Is k0 6) (σ : Mem) : J F 1 (cvI σ) (f_NO_full k0 σ) σ 0 [(0, .ref (fad F k0))] [] := by
  unfold f_NO_full
  refine j_aload_n C d_NO_full_0 0 rfl ?_
  refine j_getI C h0k fl_NO_26 rfl d_NO_full_1 ?_
  refine j_bipush (v := (6 : Int32)) C d_NO_full_4 (by decide) ?_
  refine d_icmp_lt (a := (0 : Int32)) (b := (1 : Int32)) (jp := 14) (tgt := 13) C d_NO_full_6 (by decide) (fun c1 k2 => ?_) (fun c1 k2 => ?_) ?_
  · refine j_iconst (v := (0 : Int32)) C d_NO_full_13 (by decide) ?_
    exact k2
  · refine j_iconst (v := (1 : Int32)) C d_NO_full_9 (by decide) ?_
    refine j_goto (tgt := 14) C d_NO_full_10 (by decide) ?_
    exact k2
  exact j_iretz C (fun ρ h => leaf_eq h) (nz01 (ite01 (Or.inl rfl) (Or.inr rfl))) d_NO_full_14
theorem c_NO_full {l : Launch} {D : va_G} {G : GC} {ad : Nat → Nat} {k0 : Nat} (h0k : Is k0 6) (σ : Mem) : Ctr l D G ad ⟨"LineFrames$Notes", "full", "()Z"⟩ prog_7_method_3_code 1 (some .boolean) 0 0 [.ref (ad k0)] σ (.inl (some (.int (f_NO_full k0 σ))), σ) := ctr_J (cv := (cvI σ)) (E := f_NO_full k0 σ) (by decide +kernel) (Nat.le_of_ble_eq_true rfl) rfl (fun F h C => by subst h; exact w_NO_full C h0k σ)
theorem z_NO_full (k0 : Nat) (σ : Mem) : f_NO_full k0 σ = 0 ∨ f_NO_full k0 σ = 1 := by
  unfold f_NO_full
  try simp only [lt]
  repeat' split
  all_goals first | exact Or.inl rfl | exact Or.inr rfl
/-! LineFrames$Notes open (I)I -/
theorem d_NO_open_0 : decode prog_7_method_8_code 0 = .ok (.aload_n 0, 1) := by decide +kernel
theorem d_NO_open_1 : decode prog_7_method_8_code 1 = .ok (.getfield 26, 3) := by decide +kernel
theorem d_NO_open_4 : decode prog_7_method_8_code 4 = .ok (.istore_n 2, 1) := by decide +kernel
theorem d_NO_open_5 : decode prog_7_method_8_code 5 = .ok (.aload_n 0, 1) := by decide +kernel
theorem d_NO_open_6 : decode prog_7_method_8_code 6 = .ok (.getfield 14, 3) := by decide +kernel
theorem d_NO_open_9 : decode prog_7_method_8_code 9 = .ok (.iload_n 2, 1) := by decide +kernel
theorem d_NO_open_10 : decode prog_7_method_8_code 10 = .ok (.iload_n 1, 1) := by decide +kernel
theorem d_NO_open_11 : decode prog_7_method_8_code 11 = .ok (.invokevirtual 34, 3) := by decide +kernel
theorem d_NO_open_14 : decode prog_7_method_8_code 14 = .ok (.aload_n 0, 1) := by decide +kernel
theorem d_NO_open_15 : decode prog_7_method_8_code 15 = .ok (.getfield 20, 3) := by decide +kernel
theorem d_NO_open_18 : decode prog_7_method_8_code 18 = .ok (.iload_n 2, 1) := by decide +kernel
theorem d_NO_open_19 : decode prog_7_method_8_code 19 = .ok (.iconst 0, 1) := by decide +kernel
theorem d_NO_open_20 : decode prog_7_method_8_code 20 = .ok (.invokevirtual 34, 3) := by decide +kernel
theorem d_NO_open_23 : decode prog_7_method_8_code 23 = .ok (.aload_n 0, 1) := by decide +kernel
theorem d_NO_open_24 : decode prog_7_method_8_code 24 = .ok (.dup, 1) := by decide +kernel
theorem d_NO_open_25 : decode prog_7_method_8_code 25 = .ok (.getfield 26, 3) := by decide +kernel
theorem d_NO_open_28 : decode prog_7_method_8_code 28 = .ok (.iconst 1, 1) := by decide +kernel
theorem d_NO_open_29 : decode prog_7_method_8_code 29 = .ok (.iadd, 1) := by decide +kernel
theorem d_NO_open_30 : decode prog_7_method_8_code 30 = .ok (.putfield 26, 3) := by decide +kernel
theorem d_NO_open_33 : decode prog_7_method_8_code 33 = .ok (.iload_n 2, 1) := by decide +kernel
theorem d_NO_open_34 : decode prog_7_method_8_code 34 = .ok (.ireturn, 1) := by decide +kernel
def f_NO_open (k0 : Nat) (x1 : Int32) (σ : Mem) : Int32 × Mem :=
  lt (f_RO_set (wtg k0 0) (σ k0 3) x1 σ) fun σ1 =>
  lt (f_RO_set (wtg k0 1) (σ k0 3) (0 : Int32) σ1) fun σ2 =>
  lt (mput σ2 k0 3 ((σ2 k0 3) + (1 : Int32))) fun σ3 =>
  ((σ k0 3), σ3)
set_option maxHeartbeats 4000000 in
set_option maxRecDepth 100000 in
theorem w_NO_open {F : Fx} (C : Ctx F prog_7_method_8_code 3 "LineFrames$Notes" (some .int) 1 22) {k0 : Nat} (h0k : Is k0 6) (x1 : Int32) (σ : Mem) : J F 3 cvIM (f_NO_open k0 x1 σ) σ 0 [(0, .ref (fad F k0)), (1, .int x1)] [] := by
  unfold f_NO_open
  refine j_aload_n C d_NO_open_0 0 rfl ?_
  refine j_getI C h0k fl_NO_26 rfl d_NO_open_1 ?_
  refine j_istore_n (lv9 := [(0, .ref (fad F k0)), (1, .int x1), (2, .int (σ k0 3))]) C d_NO_open_4 rfl rfl (by decide) ?_
  refine j_aload_n C d_NO_open_5 0 rfl ?_
  refine j_getR C h0k fl_NO_14 rfl d_NO_open_6 ?_
  refine j_iload_n C d_NO_open_9 2 rfl ?_
  refine j_iload_n C d_NO_open_10 1 rfl ?_
  refine j_callVv C mv_NO_34 [.int (σ k0 3), .int x1] [] (tg_6_0 _ h0k) (c_RO_set (tg_6_0 _ h0k) (σ k0 3) x1 σ) rfl rfl (by decide) (Nat.le_of_ble_eq_true rfl) d_NO_open_11 ?_
  refine j_genM (fun σ1 => ?_)
  refine j_aload_n C d_NO_open_14 0 rfl ?_
  refine j_getR C h0k fl_NO_20 rfl d_NO_open_15 ?_
  refine j_iload_n C d_NO_open_18 2 rfl ?_
  refine j_iconst (v := (0 : Int32)) C d_NO_open_19 (by decide) ?_
  refine j_callVv C mv_NO_34 [.int (σ k0 3), .int (0 : Int32)] [] (tg_6_1 _ h0k) (c_RO_set (tg_6_1 _ h0k) (σ k0 3) (0 : Int32) σ1) rfl rfl (by decide) (Nat.le_of_ble_eq_true rfl) d_NO_open_20 ?_
  refine j_genM (fun σ2 => ?_)
  refine j_aload_n C d_NO_open_23 0 rfl ?_
  refine j_dup C d_NO_open_24 rfl ?_
  refine j_getI C h0k fl_NO_26 rfl d_NO_open_25 ?_
  refine j_iconst (v := (1 : Int32)) C d_NO_open_28 (by decide) ?_
  refine j_iadd C d_NO_open_29 ?_
  refine j_put C h0k fl_NO_26 fw_6_3 rfl rfl rfl d_NO_open_30 (fun σ3 => ?_)
  refine j_iload_n C d_NO_open_33 2 rfl ?_
  exact j_ireti C (fun ρ h => leaf_eq h) d_NO_open_34
theorem c_NO_open {l : Launch} {D : va_G} {G : GC} {ad : Nat → Nat} {k0 : Nat} (h0k : Is k0 6) (x1 : Int32) (σ : Mem) : Ctr l D G ad ⟨"LineFrames$Notes", "open", "(I)I"⟩ prog_7_method_8_code 3 (some .int) 1 22 [.ref (ad k0), .int x1] σ (.inl (some (.int (f_NO_open k0 x1 σ).1)), (f_NO_open k0 x1 σ).2) := ctr_J (cv := cvIM) (E := f_NO_open k0 x1 σ) (by decide +kernel) (Nat.le_of_ble_eq_true rfl) rfl (fun F h C => by subst h; exact w_NO_open C h0k x1 σ)
/-! LineFrames$Notes append (II)I -/
theorem d_NO_append_0 : decode prog_7_method_9_code 0 = .ok (.aload_n 0, 1) := by decide +kernel
theorem d_NO_append_1 : decode prog_7_method_9_code 1 = .ok (.getfield 20, 3) := by decide +kernel
theorem d_NO_append_4 : decode prog_7_method_9_code 4 = .ok (.iload_n 1, 1) := by decide +kernel
theorem d_NO_append_5 : decode prog_7_method_9_code 5 = .ok (.invokevirtual 30, 3) := by decide +kernel
theorem d_NO_append_8 : decode prog_7_method_9_code 8 = .ok (.istore_n 3, 1) := by decide +kernel
theorem d_NO_append_9 : decode prog_7_method_9_code 9 = .ok (.aload_n 0, 1) := by decide +kernel
theorem d_NO_append_10 : decode prog_7_method_9_code 10 = .ok (.getfield 23, 3) := by decide +kernel
theorem d_NO_append_13 : decode prog_7_method_9_code 13 = .ok (.iload_n 1, 1) := by decide +kernel
theorem d_NO_append_14 : decode prog_7_method_9_code 14 = .ok (.bipush 30, 2) := by decide +kernel
theorem d_NO_append_16 : decode prog_7_method_9_code 16 = .ok (.imul, 1) := by decide +kernel
theorem d_NO_append_17 : decode prog_7_method_9_code 17 = .ok (.iload_n 3, 1) := by decide +kernel
theorem d_NO_append_18 : decode prog_7_method_9_code 18 = .ok (.iadd, 1) := by decide +kernel
theorem d_NO_append_19 : decode prog_7_method_9_code 19 = .ok (.iload_n 2, 1) := by decide +kernel
theorem d_NO_append_20 : decode prog_7_method_9_code 20 = .ok (.invokevirtual 34, 3) := by decide +kernel
theorem d_NO_append_23 : decode prog_7_method_9_code 23 = .ok (.aload_n 0, 1) := by decide +kernel
theorem d_NO_append_24 : decode prog_7_method_9_code 24 = .ok (.getfield 20, 3) := by decide +kernel
theorem d_NO_append_27 : decode prog_7_method_9_code 27 = .ok (.iload_n 1, 1) := by decide +kernel
theorem d_NO_append_28 : decode prog_7_method_9_code 28 = .ok (.iload_n 3, 1) := by decide +kernel
theorem d_NO_append_29 : decode prog_7_method_9_code 29 = .ok (.iconst 1, 1) := by decide +kernel
theorem d_NO_append_30 : decode prog_7_method_9_code 30 = .ok (.iadd, 1) := by decide +kernel
theorem d_NO_append_31 : decode prog_7_method_9_code 31 = .ok (.invokevirtual 34, 3) := by decide +kernel
theorem d_NO_append_34 : decode prog_7_method_9_code 34 = .ok (.iload_n 3, 1) := by decide +kernel
theorem d_NO_append_35 : decode prog_7_method_9_code 35 = .ok (.iconst 1, 1) := by decide +kernel
theorem d_NO_append_36 : decode prog_7_method_9_code 36 = .ok (.iadd, 1) := by decide +kernel
theorem d_NO_append_37 : decode prog_7_method_9_code 37 = .ok (.ireturn, 1) := by decide +kernel
def f_NO_append (k0 : Nat) (x1 : Int32) (x2 : Int32) (σ : Mem) : Int32 × Mem :=
  lt (f_RO_set (wtg k0 2) ((x1 * (30 : Int32)) + (f_RO_get (wtg k0 1) x1 σ)) x2 σ) fun σ1 =>
  lt (f_RO_set (wtg k0 1) x1 ((f_RO_get (wtg k0 1) x1 σ) + (1 : Int32)) σ1) fun σ2 =>
  (((f_RO_get (wtg k0 1) x1 σ) + (1 : Int32)), σ2)
set_option maxHeartbeats 4000000 in
set_option maxRecDepth 100000 in
theorem w_NO_append {F : Fx} (C : Ctx F prog_7_method_9_code 4 "LineFrames$Notes" (some .int) 1 22) {k0 : Nat} (h0k : Is k0 6) (x1 : Int32) (x2 : Int32) (σ : Mem) : J F 4 cvIM (f_NO_append k0 x1 x2 σ) σ 0 [(0, .ref (fad F k0)), (1, .int x1), (2, .int x2)] [] := by
  unfold f_NO_append
  refine j_aload_n C d_NO_append_0 0 rfl ?_
  refine j_getR C h0k fl_NO_20 rfl d_NO_append_1 ?_
  refine j_iload_n C d_NO_append_4 1 rfl ?_
  refine j_callVi C mv_NO_30 [.int x1] [] (tg_6_1 _ h0k) (c_RO_get (tg_6_1 _ h0k) x1 σ) rfl rfl (by decide) (Nat.le_of_ble_eq_true rfl) d_NO_append_5 ?_
  refine j_istore_n (lv9 := [(0, .ref (fad F k0)), (1, .int x1), (2, .int x2), (3, .int (f_RO_get (wtg k0 1) x1 σ))]) C d_NO_append_8 rfl rfl (by decide) ?_
  refine j_aload_n C d_NO_append_9 0 rfl ?_
  refine j_getR C h0k fl_NO_23 rfl d_NO_append_10 ?_
  refine j_iload_n C d_NO_append_13 1 rfl ?_
  refine j_bipush (v := (30 : Int32)) C d_NO_append_14 (by decide) ?_
  refine j_imul C d_NO_append_16 ?_
  refine j_iload_n C d_NO_append_17 3 rfl ?_
  refine j_iadd C d_NO_append_18 ?_
  refine j_iload_n C d_NO_append_19 2 rfl ?_
  refine j_callVv C mv_NO_34 [.int ((x1 * (30 : Int32)) + (f_RO_get (wtg k0 1) x1 σ)), .int x2] [] (tg_6_2 _ h0k) (c_RO_set (tg_6_2 _ h0k) ((x1 * (30 : Int32)) + (f_RO_get (wtg k0 1) x1 σ)) x2 σ) rfl rfl (by decide) (Nat.le_of_ble_eq_true rfl) d_NO_append_20 ?_
  refine j_genM (fun σ1 => ?_)
  refine j_aload_n C d_NO_append_23 0 rfl ?_
  refine j_getR C h0k fl_NO_20 rfl d_NO_append_24 ?_
  refine j_iload_n C d_NO_append_27 1 rfl ?_
  refine j_iload_n C d_NO_append_28 3 rfl ?_
  refine j_iconst (v := (1 : Int32)) C d_NO_append_29 (by decide) ?_
  refine j_iadd C d_NO_append_30 ?_
  refine j_callVv C mv_NO_34 [.int x1, .int ((f_RO_get (wtg k0 1) x1 σ) + (1 : Int32))] [] (tg_6_1 _ h0k) (c_RO_set (tg_6_1 _ h0k) x1 ((f_RO_get (wtg k0 1) x1 σ) + (1 : Int32)) σ1) rfl rfl (by decide) (Nat.le_of_ble_eq_true rfl) d_NO_append_31 ?_
  refine j_genM (fun σ2 => ?_)
  refine j_iload_n C d_NO_append_34 3 rfl ?_
  refine j_iconst (v := (1 : Int32)) C d_NO_append_35 (by decide) ?_
  refine j_iadd C d_NO_append_36 ?_
  exact j_ireti C (fun ρ h => leaf_eq h) d_NO_append_37
theorem c_NO_append {l : Launch} {D : va_G} {G : GC} {ad : Nat → Nat} {k0 : Nat} (h0k : Is k0 6) (x1 : Int32) (x2 : Int32) (σ : Mem) : Ctr l D G ad ⟨"LineFrames$Notes", "append", "(II)I"⟩ prog_7_method_9_code 4 (some .int) 1 22 [.ref (ad k0), .int x1, .int x2] σ (.inl (some (.int (f_NO_append k0 x1 x2 σ).1)), (f_NO_append k0 x1 x2 σ).2) := ctr_J (cv := cvIM) (E := f_NO_append k0 x1 x2 σ) (by decide +kernel) (Nat.le_of_ble_eq_true rfl) rfl (fun F h C => by subst h; exact w_NO_append C h0k x1 x2 σ)
/-! LineFrames$StreamReader takeNote (III)I -/
theorem d_SR_takeNote_0 : decode prog_10_method_13_code 0 = .ok (.aload_n 0, 1) := by decide +kernel
theorem d_SR_takeNote_1 : decode prog_10_method_13_code 1 = .ok (.getfield 12, 3) := by decide +kernel
theorem d_SR_takeNote_4 : decode prog_10_method_13_code 4 = .ok (.getfield 165, 3) := by decide +kernel
theorem d_SR_takeNote_7 : decode prog_10_method_13_code 7 = .ok (.invokevirtual 169, 3) := by decide +kernel
theorem d_SR_takeNote_10 : decode prog_10_method_13_code 10 = .ok (.ifCond .ne 11, 3) := by decide +kernel
theorem d_SR_takeNote_13 : decode prog_10_method_13_code 13 = .ok (.iload_n 3, 1) := by decide +kernel
theorem d_SR_takeNote_14 : decode prog_10_method_13_code 14 = .ok (.iconst 2, 1) := by decide +kernel
theorem d_SR_takeNote_15 : decode prog_10_method_13_code 15 = .ok (.isub, 1) := by decide +kernel
theorem d_SR_takeNote_16 : decode prog_10_method_13_code 16 = .ok (.bipush 30, 2) := by decide +kernel
theorem d_SR_takeNote_18 : decode prog_10_method_13_code 18 = .ok (.if_icmp .le 5, 3) := by decide +kernel
theorem d_SR_takeNote_21 : decode prog_10_method_13_code 21 = .ok (.iconst 4, 1) := by decide +kernel
theorem d_SR_takeNote_22 : decode prog_10_method_13_code 22 = .ok (.ireturn, 1) := by decide +kernel
theorem d_SR_takeNote_23 : decode prog_10_method_13_code 23 = .ok (.aload_n 0, 1) := by decide +kernel
theorem d_SR_takeNote_24 : decode prog_10_method_13_code 24 = .ok (.getfield 12, 3) := by decide +kernel
theorem d_SR_takeNote_27 : decode prog_10_method_13_code 27 = .ok (.getfield 165, 3) := by decide +kernel
theorem d_SR_takeNote_30 : decode prog_10_method_13_code 30 = .ok (.iload_n 1, 1) := by decide +kernel
theorem d_SR_takeNote_31 : decode prog_10_method_13_code 31 = .ok (.sipush 254, 3) := by decide +kernel
theorem d_SR_takeNote_34 : decode prog_10_method_13_code 34 = .ok (.if_icmp .ne 8, 3) := by decide +kernel
theorem d_SR_takeNote_37 : decode prog_10_method_13_code 37 = .ok (.bipush 16, 2) := by decide +kernel
theorem d_SR_takeNote_39 : decode prog_10_method_13_code 39 = .ok (.goto 8, 3) := by decide +kernel
theorem d_SR_takeNote_42 : decode prog_10_method_13_code 42 = .ok (.iload_n 1, 1) := by decide +kernel
theorem d_SR_takeNote_43 : decode prog_10_method_13_code 43 = .ok (.sipush 224, 3) := by decide +kernel
theorem d_SR_takeNote_46 : decode prog_10_method_13_code 46 = .ok (.isub, 1) := by decide +kernel
theorem d_SR_takeNote_47 : decode prog_10_method_13_code 47 = .ok (.invokevirtual 174, 3) := by decide +kernel
theorem d_SR_takeNote_50 : decode prog_10_method_13_code 50 = .ok (.istore 4, 2) := by decide +kernel
theorem d_SR_takeNote_52 : decode prog_10_method_13_code 52 = .ok (.iconst 0, 1) := by decide +kernel
theorem d_SR_takeNote_53 : decode prog_10_method_13_code 53 = .ok (.istore 5, 2) := by decide +kernel
theorem d_SR_takeNote_55 : decode prog_10_method_13_code 55 = .ok (.iload 5, 2) := by decide +kernel
theorem d_SR_takeNote_57 : decode prog_10_method_13_code 57 = .ok (.iload_n 3, 1) := by decide +kernel
theorem d_SR_takeNote_58 : decode prog_10_method_13_code 58 = .ok (.iconst 2, 1) := by decide +kernel
theorem d_SR_takeNote_59 : decode prog_10_method_13_code 59 = .ok (.isub, 1) := by decide +kernel
theorem d_SR_takeNote_60 : decode prog_10_method_13_code 60 = .ok (.if_icmp .ge 35, 3) := by decide +kernel
theorem d_SR_takeNote_63 : decode prog_10_method_13_code 63 = .ok (.aload_n 0, 1) := by decide +kernel
theorem d_SR_takeNote_64 : decode prog_10_method_13_code 64 = .ok (.getfield 12, 3) := by decide +kernel
theorem d_SR_takeNote_67 : decode prog_10_method_13_code 67 = .ok (.getfield 165, 3) := by decide +kernel
theorem d_SR_takeNote_70 : decode prog_10_method_13_code 70 = .ok (.iload 4, 2) := by decide +kernel
theorem d_SR_takeNote_72 : decode prog_10_method_13_code 72 = .ok (.aload_n 0, 1) := by decide +kernel
theorem d_SR_takeNote_73 : decode prog_10_method_13_code 73 = .ok (.getfield 72, 3) := by decide +kernel
theorem d_SR_takeNote_76 : decode prog_10_method_13_code 76 = .ok (.iload_n 2, 1) := by decide +kernel
theorem d_SR_takeNote_77 : decode prog_10_method_13_code 77 = .ok (.iconst 4, 1) := by decide +kernel
theorem d_SR_takeNote_78 : decode prog_10_method_13_code 78 = .ok (.iadd, 1) := by decide +kernel
theorem d_SR_takeNote_79 : decode prog_10_method_13_code 79 = .ok (.iload 5, 2) := by decide +kernel
theorem d_SR_takeNote_81 : decode prog_10_method_13_code 81 = .ok (.iadd, 1) := by decide +kernel
theorem d_SR_takeNote_82 : decode prog_10_method_13_code 82 = .ok (.invokevirtual 123, 3) := by decide +kernel
theorem d_SR_takeNote_85 : decode prog_10_method_13_code 85 = .ok (.invokevirtual 177, 3) := by decide +kernel
theorem d_SR_takeNote_88 : decode prog_10_method_13_code 88 = .ok (.pop, 1) := by decide +kernel
theorem d_SR_takeNote_89 : decode prog_10_method_13_code 89 = .ok (.iinc 5 1, 3) := by decide +kernel
theorem d_SR_takeNote_92 : decode prog_10_method_13_code 92 = .ok (.goto (-37), 3) := by decide +kernel
theorem d_SR_takeNote_95 : decode prog_10_method_13_code 95 = .ok (.iconst 0, 1) := by decide +kernel
theorem d_SR_takeNote_96 : decode prog_10_method_13_code 96 = .ok (.ireturn, 1) := by decide +kernel
def L_SR_takeNote_55 (r0 : Nat) (b1 : Int32) (b2 : Int32) (b3 : Int32) (b4 : Int32) : Nat → Int32 → Mem →  Option (Int32 × Mem)
  | 0, _, _ => none
  | n + 1, a5, σ =>
  if (b3 - (2 : Int32)) ≤ a5 then
  some (a5, σ)
  else
  lt (f_NO_append (wtg (wtg r0 1) 4) b4 (f_BY_get (wtg r0 0) ((b2 + (4 : Int32)) + a5) σ) σ) fun q15 =>
  L_SR_takeNote_55 r0 b1 b2 b3 b4 n (a5 + (1 : Int32)) q15.2
def f_SR_takeNote (k0 : Nat) (x1 : Int32) (x2 : Int32) (x3 : Int32) (σ : Mem) : Option (Int32 × Mem) :=
  if (f_NO_full (wtg (wtg k0 1) 4) σ) = 0 then
  if (x3 - (2 : Int32)) ≤ (30 : Int32) then
  lt (f_NO_open (wtg (wtg k0 1) 4) (if x1 = (254 : Int32) then (16 : Int32) else (x1 - (224 : Int32))) σ) fun q13 =>
  (L_SR_takeNote_55 k0 x1 x2 x3 q13.1 9999 (0 : Int32) q13.2).bind fun q16 =>
  some ((0 : Int32), q16.2)
  else
  some ((4 : Int32), σ)
  else
  some ((4 : Int32), σ)
set_option maxHeartbeats 4000000 in
set_option maxRecDepth 100000 in
theorem wL_SR_takeNote_55 {F : Fx} (C : Ctx F prog_10_method_13_code 6 "LineFrames$StreamReader" (some .int) 2 45) {cv : Option (Int32 × Mem) → Option Rs} (h0 : cv none = none) (r0 : Nat) (hr0 : Is r0 9) (b1 : Int32) (b2 : Int32) (b3 : Int32) (b4 : Int32) (hex : ∀ q : Int32 × Mem, J F 6 cv (some q) q.2 95 [(0, .ref (fad F r0)), (1, .int b1), (2, .int b2), (3, .int b3), (4, .int b4), (5, .int q.1)] []) : ∀ (n : Nat) (a5 : Int32) (σ : Mem), J F 6 cv (L_SR_takeNote_55 r0 b1 b2 b3 b4 n a5 σ) σ 55 [(0, .ref (fad F r0)), (1, .int b1), (2, .int b2), (3, .int b3), (4, .int b4), (5, .int a5)] [] := by
  intro n
  induction n with
  | zero => intro a5 σ hE; rw [L_SR_takeNote_55, h0] at hE; cases hE
  | succ n ih =>
    intro a5 σ
    rw [L_SR_takeNote_55]
    refine j_iload C d_SR_takeNote_55 5 rfl ?_
    refine j_iload_n C d_SR_takeNote_57 3 rfl ?_
    refine j_iconst (v := (2 : Int32)) C d_SR_takeNote_58 (by decide) ?_
    refine j_isub C d_SR_takeNote_59 ?_
    refine j_icmp_ge (tgt := 95) C d_SR_takeNote_60 (by decide) (fun c14 => ?_) (fun c14 => ?_)
    · exact hex (a5, σ)
    · refine j_aload_n C d_SR_takeNote_63 0 rfl ?_
      refine j_getR C hr0 fl_SR_12 rfl d_SR_takeNote_64 ?_
      refine j_getR C (tg_9_1 _ hr0) fl_SR_165 rfl d_SR_takeNote_67 ?_
      refine j_iload C d_SR_takeNote_70 4 rfl ?_
      refine j_aload_n C d_SR_takeNote_72 0 rfl ?_
      refine j_getR C hr0 fl_SR_72 rfl d_SR_takeNote_73 ?_
      refine j_iload_n C d_SR_takeNote_76 2 rfl ?_
      refine j_iconst (v := (4 : Int32)) C d_SR_takeNote_77 (by decide) ?_
      refine j_iadd C d_SR_takeNote_78 ?_
      refine j_iload C d_SR_takeNote_79 5 rfl ?_
      refine j_iadd C d_SR_takeNote_81 ?_
      refine j_callVi C mv_SR_123 [.int ((b2 + (4 : Int32)) + a5)] [.int b4, .ref (fad F (wtg (wtg r0 1) 4))] (tg_9_0 _ hr0) (c_BY_get (tg_9_0 _ hr0) ((b2 + (4 : Int32)) + a5) σ) rfl rfl (by decide) (Nat.le_of_ble_eq_true rfl) d_SR_takeNote_82 ?_
      refine j_callVi C mv_SR_177 [.int b4, .int (f_BY_get (wtg r0 0) ((b2 + (4 : Int32)) + a5) σ)] [] (tg_7_4 _ (tg_9_1 _ hr0)) (c_NO_append (tg_7_4 _ (tg_9_1 _ hr0)) b4 (f_BY_get (wtg r0 0) ((b2 + (4 : Int32)) + a5) σ) σ) rfl rfl (by decide) (Nat.le_of_ble_eq_true rfl) d_SR_takeNote_85 ?_
      refine j_genIM (fun q15 => ?_)
      refine j_pop C d_SR_takeNote_88 rfl ?_
      refine j_iinc (v := (a5 + (1 : Int32))) (lv9 := [(0, .ref (fad F r0)), (1, .int b1), (2, .int b2), (3, .int b3), (4, .int b4), (5, .int (a5 + (1 : Int32)))]) C d_SR_takeNote_89 5 rfl rfl rfl rfl (by decide) ?_
      refine j_goto (tgt := 55) C d_SR_takeNote_92 (by decide) ?_
      exact ih (a5 + (1 : Int32)) q15.2
set_option maxHeartbeats 4000000 in
set_option maxRecDepth 100000 in
theorem w_SR_takeNote {F : Fx} (C : Ctx F prog_10_method_13_code 6 "LineFrames$StreamReader" (some .int) 2 45) {k0 : Nat} (h0k : Is k0 9) (x1 : Int32) (x2 : Int32) (x3 : Int32) (σ : Mem) : J F 6 (cvO cvIM) (f_SR_takeNote k0 x1 x2 x3 σ) σ 0 [(0, .ref (fad F k0)), (1, .int x1), (2, .int x2), (3, .int x3)] [] := by
  unfold f_SR_takeNote
  refine j_aload_n C d_SR_takeNote_0 0 rfl ?_
  refine j_getR C h0k fl_SR_12 rfl d_SR_takeNote_1 ?_
  refine j_getR C (tg_9_1 _ h0k) fl_SR_165 rfl d_SR_takeNote_4 ?_
  refine j_callVi C mv_SR_169 [] [] (tg_7_4 _ (tg_9_1 _ h0k)) (c_NO_full (tg_7_4 _ (tg_9_1 _ h0k)) σ) rfl rfl (by decide) (Nat.le_of_ble_eq_true rfl) d_SR_takeNote_7 ?_
  refine j_if_ne (tgt := 21) C d_SR_takeNote_10 (by decide) (fun c9 => ?_) (fun c9 => ?_)
  · refine j_iconst (v := (4 : Int32)) C d_SR_takeNote_21 (by decide) ?_
    exact j_ireti C (fun ρ h => leaf_eq h) d_SR_takeNote_22
  · refine j_iload_n C d_SR_takeNote_13 3 rfl ?_
    refine j_iconst (v := (2 : Int32)) C d_SR_takeNote_14 (by decide) ?_
    refine j_isub C d_SR_takeNote_15 ?_
    refine j_bipush (v := (30 : Int32)) C d_SR_takeNote_16 (by decide) ?_
    refine j_icmp_le (tgt := 23) C d_SR_takeNote_18 (by decide) (fun c10 => ?_) (fun c10 => ?_)
    · refine j_aload_n C d_SR_takeNote_23 0 rfl ?_
      refine j_getR C h0k fl_SR_12 rfl d_SR_takeNote_24 ?_
      refine j_getR C (tg_9_1 _ h0k) fl_SR_165 rfl d_SR_takeNote_27 ?_
      refine j_iload_n C d_SR_takeNote_30 1 rfl ?_
      refine j_sipush (v := (254 : Int32)) C d_SR_takeNote_31 (by decide) ?_
      refine d_icmp_ne (a := (16 : Int32)) (b := (x1 - (224 : Int32))) (jp := 47) (tgt := 42) C d_SR_takeNote_34 (by decide) (fun c11 k12 => ?_) (fun c11 k12 => ?_) ?_
      · refine j_iload_n C d_SR_takeNote_42 1 rfl ?_
        refine j_sipush (v := (224 : Int32)) C d_SR_takeNote_43 (by decide) ?_
        refine j_isub C d_SR_takeNote_46 ?_
        exact k12
      · refine j_bipush (v := (16 : Int32)) C d_SR_takeNote_37 (by decide) ?_
        refine j_goto (tgt := 47) C d_SR_takeNote_39 (by decide) ?_
        exact k12
      refine j_callVi C mv_SR_174 [.int (if x1 = (254 : Int32) then (16 : Int32) else (x1 - (224 : Int32)))] [] (tg_7_4 _ (tg_9_1 _ h0k)) (c_NO_open (tg_7_4 _ (tg_9_1 _ h0k)) (if x1 = (254 : Int32) then (16 : Int32) else (x1 - (224 : Int32))) σ) rfl rfl (by decide) (Nat.le_of_ble_eq_true rfl) d_SR_takeNote_47 ?_
      refine j_genIM (fun q13 => ?_)
      refine j_istore (lv9 := [(0, .ref (fad F k0)), (1, .int x1), (2, .int x2), (3, .int x3), (4, .int q13.1)]) C d_SR_takeNote_50 rfl rfl (by decide) ?_
      refine j_iconst (v := (0 : Int32)) C d_SR_takeNote_52 (by decide) ?_
      refine j_istore (lv9 := [(0, .ref (fad F k0)), (1, .int x1), (2, .int x2), (3, .int x3), (4, .int q13.1), (5, .int (0 : Int32))]) C d_SR_takeNote_53 rfl rfl (by decide) ?_
      refine j_loop (wL_SR_takeNote_55 C rfl k0 h0k x1 x2 x3 q13.1 (fun q16 => j_some ?_) 9999 (0 : Int32) q13.2)
      refine j_iconst (v := (0 : Int32)) C d_SR_takeNote_95 (by decide) ?_
      exact j_ireti C (fun ρ h => leaf_eq h) d_SR_takeNote_96
    · refine j_iconst (v := (4 : Int32)) C d_SR_takeNote_21 (by decide) ?_
      exact j_ireti C (fun ρ h => leaf_eq h) d_SR_takeNote_22
theorem c_SR_takeNote {l : Launch} {D : va_G} {G : GC} {ad : Nat → Nat} {k0 : Nat} (h0k : Is k0 9) (x1 : Int32) (x2 : Int32) (x3 : Int32) (σ : Mem) {q : Int32 × Mem} (hq : f_SR_takeNote k0 x1 x2 x3 σ = some q) : Ctr l D G ad ⟨"LineFrames$StreamReader", "takeNote", "(III)I"⟩ prog_10_method_13_code 6 (some .int) 2 45 [.ref (ad k0), .int x1, .int x2, .int x3] σ (.inl (some (.int q.1)), q.2) := ctr_J (cv := (cvO cvIM)) (E := f_SR_takeNote k0 x1 x2 x3 σ) (by decide +kernel) (Nat.le_of_ble_eq_true rfl) (by rw [hq]; rfl) (fun F h C => by subst h; exact w_SR_takeNote C h0k x1 x2 x3 σ)
/-! LineFrames$StreamReader take (III)I -/
theorem d_SR_take_0 : decode prog_10_method_12_code 0 = .ok (.iload_n 1, 1) := by decide +kernel
theorem d_SR_take_1 : decode prog_10_method_12_code 1 = .ok (.lookupswitch 71 #[(218, 64), (221, 57), (247, 43), (248, 50)], 43) := by decide +kernel
theorem d_SR_take_44 : decode prog_10_method_12_code 44 = .ok (.aload_n 0, 1) := by decide +kernel
theorem d_SR_take_45 : decode prog_10_method_12_code 45 = .ok (.iload_n 2, 1) := by decide +kernel
theorem d_SR_take_46 : decode prog_10_method_12_code 46 = .ok (.iload_n 3, 1) := by decide +kernel
theorem d_SR_take_47 : decode prog_10_method_12_code 47 = .ok (.invokevirtual 149, 3) := by decide +kernel
theorem d_SR_take_50 : decode prog_10_method_12_code 50 = .ok (.ireturn, 1) := by decide +kernel
theorem d_SR_take_51 : decode prog_10_method_12_code 51 = .ok (.aload_n 0, 1) := by decide +kernel
theorem d_SR_take_52 : decode prog_10_method_12_code 52 = .ok (.iload_n 2, 1) := by decide +kernel
theorem d_SR_take_53 : decode prog_10_method_12_code 53 = .ok (.iload_n 3, 1) := by decide +kernel
theorem d_SR_take_54 : decode prog_10_method_12_code 54 = .ok (.invokevirtual 153, 3) := by decide +kernel
theorem d_SR_take_57 : decode prog_10_method_12_code 57 = .ok (.ireturn, 1) := by decide +kernel
theorem d_SR_take_58 : decode prog_10_method_12_code 58 = .ok (.aload_n 0, 1) := by decide +kernel
theorem d_SR_take_59 : decode prog_10_method_12_code 59 = .ok (.iload_n 2, 1) := by decide +kernel
theorem d_SR_take_60 : decode prog_10_method_12_code 60 = .ok (.iload_n 3, 1) := by decide +kernel
theorem d_SR_take_61 : decode prog_10_method_12_code 61 = .ok (.invokevirtual 156, 3) := by decide +kernel
theorem d_SR_take_64 : decode prog_10_method_12_code 64 = .ok (.ireturn, 1) := by decide +kernel
theorem d_SR_take_65 : decode prog_10_method_12_code 65 = .ok (.aload_n 0, 1) := by decide +kernel
theorem d_SR_take_66 : decode prog_10_method_12_code 66 = .ok (.iload_n 2, 1) := by decide +kernel
theorem d_SR_take_67 : decode prog_10_method_12_code 67 = .ok (.iload_n 3, 1) := by decide +kernel
theorem d_SR_take_68 : decode prog_10_method_12_code 68 = .ok (.invokevirtual 159, 3) := by decide +kernel
theorem d_SR_take_71 : decode prog_10_method_12_code 71 = .ok (.ireturn, 1) := by decide +kernel
theorem d_SR_take_72 : decode prog_10_method_12_code 72 = .ok (.aload_n 0, 1) := by decide +kernel
theorem d_SR_take_73 : decode prog_10_method_12_code 73 = .ok (.iload_n 1, 1) := by decide +kernel
theorem d_SR_take_74 : decode prog_10_method_12_code 74 = .ok (.iload_n 2, 1) := by decide +kernel
theorem d_SR_take_75 : decode prog_10_method_12_code 75 = .ok (.iload_n 3, 1) := by decide +kernel
theorem d_SR_take_76 : decode prog_10_method_12_code 76 = .ok (.invokevirtual 162, 3) := by decide +kernel
theorem d_SR_take_79 : decode prog_10_method_12_code 79 = .ok (.ireturn, 1) := by decide +kernel
def f_SR_take (k0 : Nat) (x1 : Int32) (x2 : Int32) (x3 : Int32) (σ : Mem) : Option (Int32 × Mem) :=
  if x1 = 218 then
  (f_SR_takeScan k0 x2 x3 σ).bind fun q6 =>
  some (q6.1, q6.2)
  else
  if x1 = 221 then
  lt (f_SR_takeRestarts k0 x2 x3 σ) fun q7 =>
  some (q7.1, q7.2)
  else
  if x1 = 247 then
  (f_SR_takeFrame k0 x2 x3 σ).bind fun q9 =>
  some (q9.1, q9.2)
  else
  if x1 = 248 then
  (f_SR_takePresetsOrTable k0 x2 x3 σ).bind fun q11 =>
  some (q11.1, q11.2)
  else
  (f_SR_takeNote k0 x1 x2 x3 σ).bind fun q13 =>
  some (q13.1, q13.2)
set_option maxHeartbeats 4000000 in
set_option maxRecDepth 100000 in
theorem w_SR_take {F : Fx} (C : Ctx F prog_10_method_12_code 4 "LineFrames$StreamReader" (some .int) 4 94) {k0 : Nat} (h0k : Is k0 9) (x1 : Int32) (x2 : Int32) (x3 : Int32) (σ : Mem) : J F 4 (cvO cvIM) (f_SR_take k0 x1 x2 x3 σ) σ 0 [(0, .ref (fad F k0)), (1, .int x1), (2, .int x2), (3, .int x3)] [] := by
  unfold f_SR_take
  refine j_iload_n C d_SR_take_0 1 rfl ?_
  refine j_case (fun c1 => ?_) (fun c1 => ?_)
  · refine j_look (off := 64) (tgt := 65) C d_SR_take_1 (by decide) (by rw [c1] <;> decide) (by decide) ?_
    refine j_aload_n C d_SR_take_65 0 rfl ?_
    refine j_iload_n C d_SR_take_66 2 rfl ?_
    refine j_iload_n C d_SR_take_67 3 rfl ?_
    refine j_bind rfl (fun q6 e5 => ?_)
    refine j_callVi C mv_SR_159 [.int x2, .int x3] [] h0k (c_SR_takeScan h0k x2 x3 σ e5) rfl rfl (by decide) (Nat.le_of_ble_eq_true rfl) d_SR_take_68 ?_
    exact j_ireti C (fun ρ h => leaf_eq h) d_SR_take_71
  · refine j_case (fun c2 => ?_) (fun c2 => ?_)
    · refine j_look (off := 57) (tgt := 58) C d_SR_take_1 (by decide) (by rw [c2] <;> decide) (by decide) ?_
      refine j_aload_n C d_SR_take_58 0 rfl ?_
      refine j_iload_n C d_SR_take_59 2 rfl ?_
      refine j_iload_n C d_SR_take_60 3 rfl ?_
      refine j_callVi C mv_SR_156 [.int x2, .int x3] [] h0k (c_SR_takeRestarts h0k x2 x3 σ) rfl rfl (by decide) (Nat.le_of_ble_eq_true rfl) d_SR_take_61 ?_
      refine j_genIM (fun q7 => ?_)
      exact j_ireti C (fun ρ h => leaf_eq h) d_SR_take_64
    · refine j_case (fun c3 => ?_) (fun c3 => ?_)
      · refine j_look (off := 43) (tgt := 44) C d_SR_take_1 (by decide) (by rw [c3] <;> decide) (by decide) ?_
        refine j_aload_n C d_SR_take_44 0 rfl ?_
        refine j_iload_n C d_SR_take_45 2 rfl ?_
        refine j_iload_n C d_SR_take_46 3 rfl ?_
        refine j_bind rfl (fun q9 e8 => ?_)
        refine j_callVi C mv_SR_149 [.int x2, .int x3] [] h0k (c_SR_takeFrame h0k x2 x3 σ e8) rfl rfl (by decide) (Nat.le_of_ble_eq_true rfl) d_SR_take_47 ?_
        exact j_ireti C (fun ρ h => leaf_eq h) d_SR_take_50
      · refine j_case (fun c4 => ?_) (fun c4 => ?_)
        · refine j_look (off := 50) (tgt := 51) C d_SR_take_1 (by decide) (by rw [c4] <;> decide) (by decide) ?_
          refine j_aload_n C d_SR_take_51 0 rfl ?_
          refine j_iload_n C d_SR_take_52 2 rfl ?_
          refine j_iload_n C d_SR_take_53 3 rfl ?_
          refine j_bind rfl (fun q11 e10 => ?_)
          refine j_callVi C mv_SR_153 [.int x2, .int x3] [] h0k (c_SR_takePresetsOrTable h0k x2 x3 σ e10) rfl rfl (by decide) (Nat.le_of_ble_eq_true rfl) d_SR_take_54 ?_
          exact j_ireti C (fun ρ h => leaf_eq h) d_SR_take_57
        · refine j_look (off := 71) (tgt := 72) C d_SR_take_1 (by decide) (by rw [lv_osw c1 (by decide), lv_osw c2 (by decide), lv_osw c3 (by decide), lv_osw c4 (by decide)] <;> rfl) (by decide) ?_
          refine j_aload_n C d_SR_take_72 0 rfl ?_
          refine j_iload_n C d_SR_take_73 1 rfl ?_
          refine j_iload_n C d_SR_take_74 2 rfl ?_
          refine j_iload_n C d_SR_take_75 3 rfl ?_
          refine j_bind rfl (fun q13 e12 => ?_)
          refine j_callVi C mv_SR_162 [.int x1, .int x2, .int x3] [] h0k (c_SR_takeNote h0k x1 x2 x3 σ e12) rfl rfl (by decide) (Nat.le_of_ble_eq_true rfl) d_SR_take_76 ?_
          exact j_ireti C (fun ρ h => leaf_eq h) d_SR_take_79
theorem c_SR_take {l : Launch} {D : va_G} {G : GC} {ad : Nat → Nat} {k0 : Nat} (h0k : Is k0 9) (x1 : Int32) (x2 : Int32) (x3 : Int32) (σ : Mem) {q : Int32 × Mem} (hq : f_SR_take k0 x1 x2 x3 σ = some q) : Ctr l D G ad ⟨"LineFrames$StreamReader", "take", "(III)I"⟩ prog_10_method_12_code 4 (some .int) 4 94 [.ref (ad k0), .int x1, .int x2, .int x3] σ (.inl (some (.int q.1)), q.2) := ctr_J (cv := (cvO cvIM)) (E := f_SR_take k0 x1 x2 x3 σ) (by decide +kernel) (Nat.le_of_ble_eq_true rfl) (by rw [hq]; rfl) (fun F h C => by subst h; exact w_SR_take C h0k x1 x2 x3 σ)
/-! LineFrames$Model steps (I)I -/
theorem d_MD_steps_0 : decode prog_6_method_8_code 0 = .ok (.aload_n 0, 1) := by decide +kernel
theorem d_MD_steps_1 : decode prog_6_method_8_code 1 = .ok (.getfield 30, 3) := by decide +kernel
theorem d_MD_steps_4 : decode prog_6_method_8_code 4 = .ok (.ifCond .le 12, 3) := by decide +kernel
theorem d_MD_steps_7 : decode prog_6_method_8_code 7 = .ok (.iload_n 1, 1) := by decide +kernel
theorem d_MD_steps_8 : decode prog_6_method_8_code 8 = .ok (.aload_n 0, 1) := by decide +kernel
theorem d_MD_steps_9 : decode prog_6_method_8_code 9 = .ok (.getfield 30, 3) := by decide +kernel
theorem d_MD_steps_12 : decode prog_6_method_8_code 12 = .ok (.idiv, 1) := by decide +kernel
theorem d_MD_steps_13 : decode prog_6_method_8_code 13 = .ok (.goto 4, 3) := by decide +kernel
theorem d_MD_steps_16 : decode prog_6_method_8_code 16 = .ok (.iconst 0, 1) := by decide +kernel
theorem d_MD_steps_17 : decode prog_6_method_8_code 17 = .ok (.ireturn, 1) := by decide +kernel
def f_MD_steps (k0 : Nat) (x1 : Int32) (σ : Mem) : Int32 :=
  (if (σ k0 5) ≤ 0 then (0 : Int32) else (x1 / (σ k0 5)))
set_option maxHeartbeats 4000000 in
set_option maxRecDepth 100000 in
theorem w_MD_steps {F : Fx} (C : Ctx F prog_6_method_8_code 2 "LineFrames$Model" (some .int) 0 0) {k0 : Nat} (h0k : Is k0 5) (x1 : Int32) (σ : Mem) : J F 2 (cvI σ) (f_MD_steps k0 x1 σ) σ 0 [(0, .ref (fad F k0)), (1, .int x1)] [] := by
  unfold f_MD_steps
  refine j_aload_n C d_MD_steps_0 0 rfl ?_
  refine j_getI C h0k fl_MD_30 rfl d_MD_steps_1 ?_
  refine d_if_le (a := (0 : Int32)) (b := (x1 / (σ k0 5))) (jp := 17) (tgt := 16) C d_MD_steps_4 (by decide) (fun c1 k2 => ?_) (fun c1 k2 => ?_) ?_
  · refine j_iconst (v := (0 : Int32)) C d_MD_steps_16 (by decide) ?_
    exact k2
  · refine j_iload_n C d_MD_steps_7 1 rfl ?_
    refine j_aload_n C d_MD_steps_8 0 rfl ?_
    refine j_getI C h0k fl_MD_30 rfl d_MD_steps_9 ?_
    refine j_idiv C d_MD_steps_12 (ne_pos c1) ?_
    refine j_goto (tgt := 17) C d_MD_steps_13 (by decide) ?_
    exact k2
  exact j_ireti C (fun ρ h => leaf_eq h) d_MD_steps_17
theorem c_MD_steps {l : Launch} {D : va_G} {G : GC} {ad : Nat → Nat} {k0 : Nat} (h0k : Is k0 5) (x1 : Int32) (σ : Mem) : Ctr l D G ad ⟨"LineFrames$Model", "steps", "(I)I"⟩ prog_6_method_8_code 2 (some .int) 0 0 [.ref (ad k0), .int x1] σ (.inl (some (.int (f_MD_steps k0 x1 σ))), σ) := ctr_J (cv := (cvI σ)) (E := f_MD_steps k0 x1 σ) (by decide +kernel) (Nat.le_of_ble_eq_true rfl) rfl (fun F h C => by subst h; exact w_MD_steps C h0k x1 σ)
/-! LineFrames$Model renew ()V -/
theorem d_MD_renew_0 : decode prog_6_method_3_code 0 = .ok (.aload_n 0, 1) := by decide +kernel
theorem d_MD_renew_1 : decode prog_6_method_3_code 1 = .ok (.getfield 14, 3) := by decide +kernel
theorem d_MD_renew_4 : decode prog_6_method_3_code 4 = .ok (.aload_n 0, 1) := by decide +kernel
theorem d_MD_renew_5 : decode prog_6_method_3_code 5 = .ok (.getfield 39, 3) := by decide +kernel
theorem d_MD_renew_8 : decode prog_6_method_3_code 8 = .ok (.invokevirtual 63, 3) := by decide +kernel
theorem d_MD_renew_11 : decode prog_6_method_3_code 11 = .ok (.aload_n 0, 1) := by decide +kernel
theorem d_MD_renew_12 : decode prog_6_method_3_code 12 = .ok (.getfield 20, 3) := by decide +kernel
theorem d_MD_renew_15 : decode prog_6_method_3_code 15 = .ok (.iconst 1, 1) := by decide +kernel
theorem d_MD_renew_16 : decode prog_6_method_3_code 16 = .ok (.invokevirtual 63, 3) := by decide +kernel
theorem d_MD_renew_19 : decode prog_6_method_3_code 19 = .ok (.return_, 1) := by decide +kernel
def f_MD_renew (k0 : Nat) (σ : Mem) : Option (Mem) :=
  (f_RO_fill (wtg k0 1) (σ k0 8) σ).bind fun σ2 =>
  (f_RO_fill (wtg k0 2) (1 : Int32) σ2).bind fun σ4 =>
  some (σ4)
set_option maxHeartbeats 4000000 in
set_option maxRecDepth 100000 in
theorem w_MD_renew {F : Fx} (C : Ctx F prog_6_method_3_code 1 "LineFrames$Model" none 1 22) {k0 : Nat} (h0k : Is k0 5) (σ : Mem) : J F 1 (cvO cvM) (f_MD_renew k0 σ) σ 0 [(0, .ref (fad F k0))] [] := by
  unfold f_MD_renew
  refine j_aload_n C d_MD_renew_0 0 rfl ?_
  refine j_getR C h0k fl_MD_14 rfl d_MD_renew_1 ?_
  refine j_aload_n C d_MD_renew_4 0 rfl ?_
  refine j_getI C h0k fl_MD_39 rfl d_MD_renew_5 ?_
  refine j_bind rfl (fun σ2 e1 => ?_)
  refine j_callVv C mv_MD_63 [.int (σ k0 8)] [] (tg_5_1 _ h0k) (c_RO_fill (tg_5_1 _ h0k) (σ k0 8) σ e1) rfl rfl (by decide) (Nat.le_of_ble_eq_true rfl) d_MD_renew_8 ?_
  refine j_aload_n C d_MD_renew_11 0 rfl ?_
  refine j_getR C h0k fl_MD_20 rfl d_MD_renew_12 ?_
  refine j_iconst (v := (1 : Int32)) C d_MD_renew_15 (by decide) ?_
  refine j_bind rfl (fun σ4 e3 => ?_)
  refine j_callVv C mv_MD_63 [.int (1 : Int32)] [] (tg_5_2 _ h0k) (c_RO_fill (tg_5_2 _ h0k) (1 : Int32) σ2 e3) rfl rfl (by decide) (Nat.le_of_ble_eq_true rfl) d_MD_renew_16 ?_
  exact j_vret C (fun ρ h => leaf_eq h) d_MD_renew_19
theorem c_MD_renew {l : Launch} {D : va_G} {G : GC} {ad : Nat → Nat} {k0 : Nat} (h0k : Is k0 5) (σ : Mem) {q : Mem} (hq : f_MD_renew k0 σ = some q) : Ctr l D G ad ⟨"LineFrames$Model", "renew", "()V"⟩ prog_6_method_3_code 1 none 1 22 [.ref (ad k0)] σ (.inl none, q) := ctr_J (cv := (cvO cvM)) (E := f_MD_renew k0 σ) (by decide +kernel) (Nat.le_of_ble_eq_true rfl) (by rw [hq]; rfl) (fun F h C => by subst h; exact w_MD_renew C h0k σ)
/-! LineFrames$Model begin (LLineFrames$Picture;I)V -/
theorem d_MD_begin_0 : decode prog_6_method_2_code 0 = .ok (.aload_n 0, 1) := by decide +kernel
theorem d_MD_begin_1 : decode prog_6_method_2_code 1 = .ok (.aload_n 1, 1) := by decide +kernel
theorem d_MD_begin_2 : decode prog_6_method_2_code 2 = .ok (.invokevirtual 45, 3) := by decide +kernel
theorem d_MD_begin_5 : decode prog_6_method_2_code 5 = .ok (.putfield 23, 3) := by decide +kernel
theorem d_MD_begin_8 : decode prog_6_method_2_code 8 = .ok (.aload_n 0, 1) := by decide +kernel
theorem d_MD_begin_9 : decode prog_6_method_2_code 9 = .ok (.iload_n 2, 1) := by decide +kernel
theorem d_MD_begin_10 : decode prog_6_method_2_code 10 = .ok (.putfield 27, 3) := by decide +kernel
theorem d_MD_begin_13 : decode prog_6_method_2_code 13 = .ok (.aload_n 0, 1) := by decide +kernel
theorem d_MD_begin_14 : decode prog_6_method_2_code 14 = .ok (.iconst 2, 1) := by decide +kernel
theorem d_MD_begin_15 : decode prog_6_method_2_code 15 = .ok (.aload_n 0, 1) := by decide +kernel
theorem d_MD_begin_16 : decode prog_6_method_2_code 16 = .ok (.getfield 27, 3) := by decide +kernel
theorem d_MD_begin_19 : decode prog_6_method_2_code 19 = .ok (.imul, 1) := by decide +kernel
theorem d_MD_begin_20 : decode prog_6_method_2_code 20 = .ok (.iconst 1, 1) := by decide +kernel
theorem d_MD_begin_21 : decode prog_6_method_2_code 21 = .ok (.iadd, 1) := by decide +kernel
theorem d_MD_begin_22 : decode prog_6_method_2_code 22 = .ok (.putfield 30, 3) := by decide +kernel
theorem d_MD_begin_25 : decode prog_6_method_2_code 25 = .ok (.aload_n 0, 1) := by decide +kernel
theorem d_MD_begin_26 : decode prog_6_method_2_code 26 = .ok (.aload_n 0, 1) := by decide +kernel
theorem d_MD_begin_27 : decode prog_6_method_2_code 27 = .ok (.aload_n 0, 1) := by decide +kernel
theorem d_MD_begin_28 : decode prog_6_method_2_code 28 = .ok (.getfield 23, 3) := by decide +kernel
theorem d_MD_begin_31 : decode prog_6_method_2_code 31 = .ok (.iconst 2, 1) := by decide +kernel
theorem d_MD_begin_32 : decode prog_6_method_2_code 32 = .ok (.aload_n 0, 1) := by decide +kernel
theorem d_MD_begin_33 : decode prog_6_method_2_code 33 = .ok (.getfield 27, 3) := by decide +kernel
theorem d_MD_begin_36 : decode prog_6_method_2_code 36 = .ok (.imul, 1) := by decide +kernel
theorem d_MD_begin_37 : decode prog_6_method_2_code 37 = .ok (.iadd, 1) := by decide +kernel
theorem d_MD_begin_38 : decode prog_6_method_2_code 38 = .ok (.invokevirtual 50, 3) := by decide +kernel
theorem d_MD_begin_41 : decode prog_6_method_2_code 41 = .ok (.iconst 1, 1) := by decide +kernel
theorem d_MD_begin_42 : decode prog_6_method_2_code 42 = .ok (.iadd, 1) := by decide +kernel
theorem d_MD_begin_43 : decode prog_6_method_2_code 43 = .ok (.putfield 33, 3) := by decide +kernel
theorem d_MD_begin_46 : decode prog_6_method_2_code 46 = .ok (.aload_n 0, 1) := by decide +kernel
theorem d_MD_begin_47 : decode prog_6_method_2_code 47 = .ok (.aload_n 1, 1) := by decide +kernel
theorem d_MD_begin_48 : decode prog_6_method_2_code 48 = .ok (.getfield 54, 3) := by decide +kernel
theorem d_MD_begin_51 : decode prog_6_method_2_code 51 = .ok (.iconst 0, 1) := by decide +kernel
theorem d_MD_begin_52 : decode prog_6_method_2_code 52 = .ok (.invokevirtual 57, 3) := by decide +kernel
theorem d_MD_begin_55 : decode prog_6_method_2_code 55 = .ok (.putfield 36, 3) := by decide +kernel
theorem d_MD_begin_58 : decode prog_6_method_2_code 58 = .ok (.aload_n 0, 1) := by decide +kernel
theorem d_MD_begin_59 : decode prog_6_method_2_code 59 = .ok (.aload_n 1, 1) := by decide +kernel
theorem d_MD_begin_60 : decode prog_6_method_2_code 60 = .ok (.getfield 54, 3) := by decide +kernel
theorem d_MD_begin_63 : decode prog_6_method_2_code 63 = .ok (.iconst 1, 1) := by decide +kernel
theorem d_MD_begin_64 : decode prog_6_method_2_code 64 = .ok (.invokevirtual 57, 3) := by decide +kernel
theorem d_MD_begin_67 : decode prog_6_method_2_code 67 = .ok (.putfield 39, 3) := by decide +kernel
theorem d_MD_begin_70 : decode prog_6_method_2_code 70 = .ok (.aload_n 0, 1) := by decide +kernel
theorem d_MD_begin_71 : decode prog_6_method_2_code 71 = .ok (.invokevirtual 60, 3) := by decide +kernel
theorem d_MD_begin_74 : decode prog_6_method_2_code 74 = .ok (.return_, 1) := by decide +kernel
def f_MD_begin (k0 : Nat) (k1 : Nat) (x2 : Int32) (σ : Mem) : Option (Mem) :=
  lt (mput σ k0 3 (f_PI_top k1 σ)) fun σ1 =>
  lt (mput σ1 k0 4 x2) fun σ2 =>
  lt (mput σ2 k0 5 (((2 : Int32) * (σ2 k0 4)) + (1 : Int32))) fun σ3 =>
  lt (mput σ3 k0 6 ((f_MD_steps k0 ((σ3 k0 3) + ((2 : Int32) * (σ3 k0 4))) σ3) + (1 : Int32))) fun σ4 =>
  lt (mput σ4 k0 7 (f_RO_get (wtg k1 1) (0 : Int32) σ4)) fun σ5 =>
  lt (mput σ5 k0 8 (f_RO_get (wtg k1 1) (1 : Int32) σ5)) fun σ6 =>
  (f_MD_renew k0 σ6).bind fun σ8 =>
  some (σ8)
set_option maxHeartbeats 4000000 in
set_option maxRecDepth 100000 in
theorem w_MD_begin {F : Fx} (C : Ctx F prog_6_method_2_code 3 "LineFrames$Model" none 2 42) {k0 : Nat} (h0k : Is k0 5) {k1 : Nat} (h1k : Is k1 7) (x2 : Int32) (σ : Mem) : J F 3 (cvO cvM) (f_MD_begin k0 k1 x2 σ) σ 0 [(0, .ref (fad F k0)), (1, .ref (fad F k1)), (2, .int x2)] [] := by
  unfold f_MD_begin
  refine j_aload_n C d_MD_begin_0 0 rfl ?_
  refine j_aload_n C d_MD_begin_1 1 rfl ?_
  refine j_callVi C mv_MD_45 [] [.ref (fad F k0)] h1k (c_PI_top h1k σ) rfl rfl (by decide) (Nat.le_of_ble_eq_true rfl) d_MD_begin_2 ?_
  refine j_put C h0k fl_MD_23 fw_5_3 rfl rfl rfl d_MD_begin_5 (fun σ1 => ?_)
  refine j_aload_n C d_MD_begin_8 0 rfl ?_
  refine j_iload_n C d_MD_begin_9 2 rfl ?_
  refine j_put C h0k fl_MD_27 fw_5_4 rfl rfl rfl d_MD_begin_10 (fun σ2 => ?_)
  refine j_aload_n C d_MD_begin_13 0 rfl ?_
  refine j_iconst (v := (2 : Int32)) C d_MD_begin_14 (by decide) ?_
  refine j_aload_n C d_MD_begin_15 0 rfl ?_
  refine j_getI C h0k fl_MD_27 rfl d_MD_begin_16 ?_
  refine j_imul C d_MD_begin_19 ?_
  refine j_iconst (v := (1 : Int32)) C d_MD_begin_20 (by decide) ?_
  refine j_iadd C d_MD_begin_21 ?_
  refine j_put C h0k fl_MD_30 fw_5_5 rfl rfl rfl d_MD_begin_22 (fun σ3 => ?_)
  refine j_aload_n C d_MD_begin_25 0 rfl ?_
  refine j_aload_n C d_MD_begin_26 0 rfl ?_
  refine j_aload_n C d_MD_begin_27 0 rfl ?_
  refine j_getI C h0k fl_MD_23 rfl d_MD_begin_28 ?_
  refine j_iconst (v := (2 : Int32)) C d_MD_begin_31 (by decide) ?_
  refine j_aload_n C d_MD_begin_32 0 rfl ?_
  refine j_getI C h0k fl_MD_27 rfl d_MD_begin_33 ?_
  refine j_imul C d_MD_begin_36 ?_
  refine j_iadd C d_MD_begin_37 ?_
  refine j_callVi C mv_MD_50 [.int ((σ3 k0 3) + ((2 : Int32) * (σ3 k0 4)))] [.ref (fad F k0)] h0k (c_MD_steps h0k ((σ3 k0 3) + ((2 : Int32) * (σ3 k0 4))) σ3) rfl rfl (by decide) (Nat.le_of_ble_eq_true rfl) d_MD_begin_38 ?_
  refine j_iconst (v := (1 : Int32)) C d_MD_begin_41 (by decide) ?_
  refine j_iadd C d_MD_begin_42 ?_
  refine j_put C h0k fl_MD_33 fw_5_6 rfl rfl rfl d_MD_begin_43 (fun σ4 => ?_)
  refine j_aload_n C d_MD_begin_46 0 rfl ?_
  refine j_aload_n C d_MD_begin_47 1 rfl ?_
  refine j_getR C h1k fl_MD_54 rfl d_MD_begin_48 ?_
  refine j_iconst (v := (0 : Int32)) C d_MD_begin_51 (by decide) ?_
  refine j_callVi C mv_MD_57 [.int (0 : Int32)] [.ref (fad F k0)] (tg_7_1 _ h1k) (c_RO_get (tg_7_1 _ h1k) (0 : Int32) σ4) rfl rfl (by decide) (Nat.le_of_ble_eq_true rfl) d_MD_begin_52 ?_
  refine j_put C h0k fl_MD_36 fw_5_7 rfl rfl rfl d_MD_begin_55 (fun σ5 => ?_)
  refine j_aload_n C d_MD_begin_58 0 rfl ?_
  refine j_aload_n C d_MD_begin_59 1 rfl ?_
  refine j_getR C h1k fl_MD_54 rfl d_MD_begin_60 ?_
  refine j_iconst (v := (1 : Int32)) C d_MD_begin_63 (by decide) ?_
  refine j_callVi C mv_MD_57 [.int (1 : Int32)] [.ref (fad F k0)] (tg_7_1 _ h1k) (c_RO_get (tg_7_1 _ h1k) (1 : Int32) σ5) rfl rfl (by decide) (Nat.le_of_ble_eq_true rfl) d_MD_begin_64 ?_
  refine j_put C h0k fl_MD_39 fw_5_8 rfl rfl rfl d_MD_begin_67 (fun σ6 => ?_)
  refine j_aload_n C d_MD_begin_70 0 rfl ?_
  refine j_bind rfl (fun σ8 e7 => ?_)
  refine j_callVv C mv_MD_60 [] [] h0k (c_MD_renew h0k σ6 e7) rfl rfl (by decide) (Nat.le_of_ble_eq_true rfl) d_MD_begin_71 ?_
  exact j_vret C (fun ρ h => leaf_eq h) d_MD_begin_74
theorem c_MD_begin {l : Launch} {D : va_G} {G : GC} {ad : Nat → Nat} {k0 : Nat} (h0k : Is k0 5) {k1 : Nat} (h1k : Is k1 7) (x2 : Int32) (σ : Mem) {q : Mem} (hq : f_MD_begin k0 k1 x2 σ = some q) : Ctr l D G ad ⟨"LineFrames$Model", "begin", "(LLineFrames$Picture;I)V"⟩ prog_6_method_2_code 3 none 2 42 [.ref (ad k0), .ref (ad k1), .int x2] σ (.inl none, q) := ctr_J (cv := (cvO cvM)) (E := f_MD_begin k0 k1 x2 σ) (by decide +kernel) (Nat.le_of_ble_eq_true rfl) (by rw [hq]; rfl) (fun F h C => by subst h; exact w_MD_begin C h0k h1k x2 σ)
/-! LineFrames$BitSource begin (I)V -/
theorem d_BO_begin_0 : decode prog_3_method_2_code 0 = .ok (.aload_n 0, 1) := by decide +kernel
theorem d_BO_begin_1 : decode prog_3_method_2_code 1 = .ok (.iload_n 1, 1) := by decide +kernel
theorem d_BO_begin_2 : decode prog_3_method_2_code 2 = .ok (.putfield 9, 3) := by decide +kernel
theorem d_BO_begin_5 : decode prog_3_method_2_code 5 = .ok (.aload_n 0, 1) := by decide +kernel
theorem d_BO_begin_6 : decode prog_3_method_2_code 6 = .ok (.iconst 0, 1) := by decide +kernel
theorem d_BO_begin_7 : decode prog_3_method_2_code 7 = .ok (.putfield 15, 3) := by decide +kernel
theorem d_BO_begin_10 : decode prog_3_method_2_code 10 = .ok (.aload_n 0, 1) := by decide +kernel
theorem d_BO_begin_11 : decode prog_3_method_2_code 11 = .ok (.iconst 0, 1) := by decide +kernel
theorem d_BO_begin_12 : decode prog_3_method_2_code 12 = .ok (.putfield 18, 3) := by decide +kernel
theorem d_BO_begin_15 : decode prog_3_method_2_code 15 = .ok (.return_, 1) := by decide +kernel
def f_BO_begin (k0 : Nat) (x1 : Int32) (σ : Mem) : Mem :=
  lt (mput σ k0 2 x1) fun σ1 =>
  lt (mput σ1 k0 3 (0 : Int32)) fun σ2 =>
  lt (mput σ2 k0 4 (0 : Int32)) fun σ3 =>
  σ3
set_option maxHeartbeats 4000000 in
set_option maxRecDepth 100000 in
theorem w_BO_begin {F : Fx} (C : Ctx F prog_3_method_2_code 2 "LineFrames$BitSource" none 0 0) {k0 : Nat} (h0k : Is k0 2) (x1 : Int32) (σ : Mem) : J F 2 cvM (f_BO_begin k0 x1 σ) σ 0 [(0, .ref (fad F k0)), (1, .int x1)] [] := by
  unfold f_BO_begin
  refine j_aload_n C d_BO_begin_0 0 rfl ?_
  refine j_iload_n C d_BO_begin_1 1 rfl ?_
  refine j_put C h0k fl_BO_9 fw_2_2 rfl rfl rfl d_BO_begin_2 (fun σ1 => ?_)
  refine j_aload_n C d_BO_begin_5 0 rfl ?_
  refine j_iconst (v := (0 : Int32)) C d_BO_begin_6 (by decide) ?_
  refine j_put C h0k fl_BO_15 fw_2_3 rfl rfl rfl d_BO_begin_7 (fun σ2 => ?_)
  refine j_aload_n C d_BO_begin_10 0 rfl ?_
  refine j_iconst (v := (0 : Int32)) C d_BO_begin_11 (by decide) ?_
  refine j_put C h0k fl_BO_18 fw_2_4 rfl rfl rfl d_BO_begin_12 (fun σ3 => ?_)
  exact j_vret C (fun ρ h => leaf_eq h) d_BO_begin_15
theorem c_BO_begin {l : Launch} {D : va_G} {G : GC} {ad : Nat → Nat} {k0 : Nat} (h0k : Is k0 2) (x1 : Int32) (σ : Mem) : Ctr l D G ad ⟨"LineFrames$BitSource", "begin", "(I)V"⟩ prog_3_method_2_code 2 none 0 0 [.ref (ad k0), .int x1] σ (.inl none, (f_BO_begin k0 x1 σ)) := ctr_J (cv := cvM) (E := f_BO_begin k0 x1 σ) (by decide +kernel) (Nat.le_of_ble_eq_true rfl) rfl (fun F h C => by subst h; exact w_BO_begin C h0k x1 σ)
end
section
/-! LineFrames$BitSource close ()V -/
theorem d_BO_close_0 : decode prog_3_method_5_code 0 = .ok (.aload_n 0, 1) := by decide +kernel
theorem d_BO_close_1 : decode prog_3_method_5_code 1 = .ok (.getfield 15, 3) := by decide +kernel
theorem d_BO_close_4 : decode prog_3_method_5_code 4 = .ok (.iconst 1, 1) := by decide +kernel
theorem d_BO_close_5 : decode prog_3_method_5_code 5 = .ok (.aload_n 0, 1) := by decide +kernel
theorem d_BO_close_6 : decode prog_3_method_5_code 6 = .ok (.getfield 18, 3) := by decide +kernel
theorem d_BO_close_9 : decode prog_3_method_5_code 9 = .ok (.ishl, 1) := by decide +kernel
theorem d_BO_close_10 : decode prog_3_method_5_code 10 = .ok (.iconst 1, 1) := by decide +kernel
theorem d_BO_close_11 : decode prog_3_method_5_code 11 = .ok (.isub, 1) := by decide +kernel
theorem d_BO_close_12 : decode prog_3_method_5_code 12 = .ok (.iand, 1) := by decide +kernel
theorem d_BO_close_13 : decode prog_3_method_5_code 13 = .ok (.istore_n 1, 1) := by decide +kernel
theorem d_BO_close_14 : decode prog_3_method_5_code 14 = .ok (.iload_n 1, 1) := by decide +kernel
theorem d_BO_close_15 : decode prog_3_method_5_code 15 = .ok (.ifCond .eq 21, 3) := by decide +kernel
theorem d_BO_close_18 : decode prog_3_method_5_code 18 = .ok (.aload_n 0, 1) := by decide +kernel
theorem d_BO_close_19 : decode prog_3_method_5_code 19 = .ok (.getfield 25, 3) := by decide +kernel
theorem d_BO_close_22 : decode prog_3_method_5_code 22 = .ok (.bipush 7, 2) := by decide +kernel
theorem d_BO_close_24 : decode prog_3_method_5_code 24 = .ok (.aload_n 0, 1) := by decide +kernel
theorem d_BO_close_25 : decode prog_3_method_5_code 25 = .ok (.getfield 9, 3) := by decide +kernel
theorem d_BO_close_28 : decode prog_3_method_5_code 28 = .ok (.iconst 1, 1) := by decide +kernel
theorem d_BO_close_29 : decode prog_3_method_5_code 29 = .ok (.isub, 1) := by decide +kernel
theorem d_BO_close_30 : decode prog_3_method_5_code 30 = .ok (.invokevirtual 33, 3) := by decide +kernel
theorem d_BO_close_33 : decode prog_3_method_5_code 33 = .ok (.goto 105, 3) := by decide +kernel
theorem d_BO_close_36 : decode prog_3_method_5_code 36 = .ok (.aload_n 0, 1) := by decide +kernel
theorem d_BO_close_37 : decode prog_3_method_5_code 37 = .ok (.getfield 15, 3) := by decide +kernel
theorem d_BO_close_40 : decode prog_3_method_5_code 40 = .ok (.sipush 255, 3) := by decide +kernel
theorem d_BO_close_43 : decode prog_3_method_5_code 43 = .ok (.if_icmp .ne 35, 3) := by decide +kernel
theorem d_BO_close_46 : decode prog_3_method_5_code 46 = .ok (.aload_n 0, 1) := by decide +kernel
theorem d_BO_close_47 : decode prog_3_method_5_code 47 = .ok (.getfield 21, 3) := by decide +kernel
theorem d_BO_close_50 : decode prog_3_method_5_code 50 = .ok (.aload_n 0, 1) := by decide +kernel
theorem d_BO_close_51 : decode prog_3_method_5_code 51 = .ok (.getfield 9, 3) := by decide +kernel
theorem d_BO_close_54 : decode prog_3_method_5_code 54 = .ok (.invokevirtual 39, 3) := by decide +kernel
theorem d_BO_close_57 : decode prog_3_method_5_code 57 = .ok (.ifCond .ne 21, 3) := by decide +kernel
theorem d_BO_close_60 : decode prog_3_method_5_code 60 = .ok (.aload_n 0, 1) := by decide +kernel
theorem d_BO_close_61 : decode prog_3_method_5_code 61 = .ok (.getfield 25, 3) := by decide +kernel
theorem d_BO_close_64 : decode prog_3_method_5_code 64 = .ok (.iconst 1, 1) := by decide +kernel
theorem d_BO_close_65 : decode prog_3_method_5_code 65 = .ok (.aload_n 0, 1) := by decide +kernel
theorem d_BO_close_66 : decode prog_3_method_5_code 66 = .ok (.getfield 21, 3) := by decide +kernel
theorem d_BO_close_69 : decode prog_3_method_5_code 69 = .ok (.invokevirtual 45, 3) := by decide +kernel
theorem d_BO_close_72 : decode prog_3_method_5_code 72 = .ok (.invokevirtual 33, 3) := by decide +kernel
theorem d_BO_close_75 : decode prog_3_method_5_code 75 = .ok (.goto 63, 3) := by decide +kernel
theorem d_BO_close_78 : decode prog_3_method_5_code 78 = .ok (.aload_n 0, 1) := by decide +kernel
theorem d_BO_close_79 : decode prog_3_method_5_code 79 = .ok (.getfield 15, 3) := by decide +kernel
theorem d_BO_close_82 : decode prog_3_method_5_code 82 = .ok (.sipush 255, 3) := by decide +kernel
theorem d_BO_close_85 : decode prog_3_method_5_code 85 = .ok (.if_icmp .ne 33, 3) := by decide +kernel
theorem d_BO_close_88 : decode prog_3_method_5_code 88 = .ok (.aload_n 0, 1) := by decide +kernel
theorem d_BO_close_89 : decode prog_3_method_5_code 89 = .ok (.getfield 21, 3) := by decide +kernel
theorem d_BO_close_92 : decode prog_3_method_5_code 92 = .ok (.aload_n 0, 1) := by decide +kernel
theorem d_BO_close_93 : decode prog_3_method_5_code 93 = .ok (.getfield 9, 3) := by decide +kernel
theorem d_BO_close_96 : decode prog_3_method_5_code 96 = .ok (.invokevirtual 49, 3) := by decide +kernel
theorem d_BO_close_99 : decode prog_3_method_5_code 99 = .ok (.ifCond .eq 19, 3) := by decide +kernel
theorem d_BO_close_102 : decode prog_3_method_5_code 102 = .ok (.aload_n 0, 1) := by decide +kernel
theorem d_BO_close_103 : decode prog_3_method_5_code 103 = .ok (.getfield 25, 3) := by decide +kernel
theorem d_BO_close_106 : decode prog_3_method_5_code 106 = .ok (.bipush 7, 2) := by decide +kernel
theorem d_BO_close_108 : decode prog_3_method_5_code 108 = .ok (.aload_n 0, 1) := by decide +kernel
theorem d_BO_close_109 : decode prog_3_method_5_code 109 = .ok (.getfield 9, 3) := by decide +kernel
theorem d_BO_close_112 : decode prog_3_method_5_code 112 = .ok (.invokevirtual 33, 3) := by decide +kernel
theorem d_BO_close_115 : decode prog_3_method_5_code 115 = .ok (.goto 23, 3) := by decide +kernel
theorem d_BO_close_118 : decode prog_3_method_5_code 118 = .ok (.aload_n 0, 1) := by decide +kernel
theorem d_BO_close_119 : decode prog_3_method_5_code 119 = .ok (.getfield 15, 3) := by decide +kernel
theorem d_BO_close_122 : decode prog_3_method_5_code 122 = .ok (.sipush 255, 3) := by decide +kernel
theorem d_BO_close_125 : decode prog_3_method_5_code 125 = .ok (.if_icmp .ne 13, 3) := by decide +kernel
theorem d_BO_close_128 : decode prog_3_method_5_code 128 = .ok (.aload_n 0, 1) := by decide +kernel
theorem d_BO_close_129 : decode prog_3_method_5_code 129 = .ok (.dup, 1) := by decide +kernel
theorem d_BO_close_130 : decode prog_3_method_5_code 130 = .ok (.getfield 9, 3) := by decide +kernel
theorem d_BO_close_133 : decode prog_3_method_5_code 133 = .ok (.iconst 1, 1) := by decide +kernel
theorem d_BO_close_134 : decode prog_3_method_5_code 134 = .ok (.iadd, 1) := by decide +kernel
theorem d_BO_close_135 : decode prog_3_method_5_code 135 = .ok (.putfield 9, 3) := by decide +kernel
theorem d_BO_close_138 : decode prog_3_method_5_code 138 = .ok (.return_, 1) := by decide +kernel
def f_BO_close (k0 : Nat) (σ : Mem) : Mem :=
  lt ((σ k0 3) &&& (((1 : Int32) <<< ((σ k0 4) &&& 31)) - (1 : Int32))) fun v1 =>
  if v1 = 0 then
  lt (fun  (σ160 : Mem) => 
  lt (fun  (σ202 : Mem) => 
  if (σ202 k0 3) = (255 : Int32) then
  lt (mput σ202 k0 2 ((σ202 k0 2) + (1 : Int32))) fun σ208 =>
  σ208
  else
  σ202) fun K203 =>
  if (σ160 k0 3) = (255 : Int32) then
  if (f_BY_get (wtg k0 0) (σ160 k0 2) σ160) = 0 then
  K203 σ160
  else
  lt (f_FA_meet (wtg k0 1) (7 : Int32) (σ160 k0 2) σ160) fun σ210 =>
  σ210
  else
  K203 σ160) fun K161 =>
  if (σ k0 3) = (255 : Int32) then
  if (f_BY_has (wtg k0 0) (σ k0 2) σ) = 0 then
  lt (f_FA_meet (wtg k0 1) (1 : Int32) (f_BY_size (wtg k0 0) σ) σ) fun σ212 =>
  σ212
  else
  K161 σ
  else
  K161 σ
  else
  lt (f_FA_meet (wtg k0 1) (7 : Int32) ((σ k0 2) - (1 : Int32)) σ) fun σ213 =>
  σ213
set_option maxHeartbeats 4000000 in
set_option maxRecDepth 100000 in
theorem w_BO_close {F : Fx} (C : Ctx F prog_3_method_5_code 2 "LineFrames$BitSource" none 1 22) {k0 : Nat} (h0k : Is k0 2) (σ : Mem) : J F 2 cvM (f_BO_close k0 σ) σ 0 [(0, .ref (fad F k0))] [] := by
  unfold f_BO_close
  refine j_aload_n C d_BO_close_0 0 rfl ?_
  refine j_getI C h0k fl_BO_15 rfl d_BO_close_1 ?_
  refine j_iconst (v := (1 : Int32)) C d_BO_close_4 (by decide) ?_
  refine j_aload_n C d_BO_close_5 0 rfl ?_
  refine j_getI C h0k fl_BO_18 rfl d_BO_close_6 ?_
  refine j_ishl C d_BO_close_9 ?_
  refine j_iconst (v := (1 : Int32)) C d_BO_close_10 (by decide) ?_
  refine j_isub C d_BO_close_11 ?_
  refine j_iand C d_BO_close_12 ?_
  refine j_nm (fun v1 v1_e => ?_)
  refine j_istore_n (lv9 := [(0, .ref (fad F k0)), (1, .int v1)]) C d_BO_close_13 rfl rfl (by decide) ?_
  refine j_iload_n C d_BO_close_14 1 rfl ?_
  refine j_if_eq (tgt := 36) C d_BO_close_15 (by decide) (fun c10 => ?_) (fun c10 => ?_)
  · refine j_aload_n C d_BO_close_36 0 rfl ?_
    refine j_getI C h0k fl_BO_15 rfl d_BO_close_37 ?_
    refine j_sipush (v := (255 : Int32)) C d_BO_close_40 (by decide) ?_
    refine j_join0m 78 (fun _ => [(0, .ref (fad F k0)), (1, .int v1)]) (fun _ => []) (fun σ160 => ?_) (fun K161 H162 => ?_)
    · refine j_aload_n C d_BO_close_78 0 rfl ?_
      refine j_getI C h0k fl_BO_15 rfl d_BO_close_79 ?_
      refine j_sipush (v := (255 : Int32)) C d_BO_close_82 (by decide) ?_
      refine j_join0m 118 (fun _ => [(0, .ref (fad F k0)), (1, .int v1)]) (fun _ => []) (fun σ202 => ?_) (fun K203 H204 => ?_)
      · refine j_aload_n C d_BO_close_118 0 rfl ?_
        refine j_getI C h0k fl_BO_15 rfl d_BO_close_119 ?_
        refine j_sipush (v := (255 : Int32)) C d_BO_close_122 (by decide) ?_
        refine j_icmp_ne (tgt := 138) C d_BO_close_125 (by decide) (fun c207 => ?_) (fun c207 => ?_)
        · exact j_vret C (fun ρ h => leaf_eq h) d_BO_close_138
        · refine j_aload_n C d_BO_close_128 0 rfl ?_
          refine j_dup C d_BO_close_129 rfl ?_
          refine j_getI C h0k fl_BO_9 rfl d_BO_close_130 ?_
          refine j_iconst (v := (1 : Int32)) C d_BO_close_133 (by decide) ?_
          refine j_iadd C d_BO_close_134 ?_
          refine j_put C h0k fl_BO_9 fw_2_2 rfl rfl rfl d_BO_close_135 (fun σ208 => ?_)
          exact j_vret C (fun ρ h => leaf_eq h) d_BO_close_138
      · refine j_icmp_ne (tgt := 118) C d_BO_close_85 (by decide) (fun c201 => ?_) (fun c201 => ?_)
        · exact H204 σ160
        · refine j_aload_n C d_BO_close_88 0 rfl ?_
          refine j_getR C h0k fl_BO_21 rfl d_BO_close_89 ?_
          refine j_aload_n C d_BO_close_92 0 rfl ?_
          refine j_getI C h0k fl_BO_9 rfl d_BO_close_93 ?_
          refine j_callVi C mv_BO_49 [.int (σ160 k0 2)] [] (tg_2_0 _ h0k) (c_BY_get (tg_2_0 _ h0k) (σ160 k0 2) σ160) rfl rfl (by decide) (Nat.le_of_ble_eq_true rfl) d_BO_close_96 ?_
          refine j_if_eq (tgt := 118) C d_BO_close_99 (by decide) (fun c209 => ?_) (fun c209 => ?_)
          · exact H204 σ160
          · refine j_aload_n C d_BO_close_102 0 rfl ?_
            refine j_getR C h0k fl_BO_25 rfl d_BO_close_103 ?_
            refine j_bipush (v := (7 : Int32)) C d_BO_close_106 (by decide) ?_
            refine j_aload_n C d_BO_close_108 0 rfl ?_
            refine j_getI C h0k fl_BO_9 rfl d_BO_close_109 ?_
            refine j_callVv C mv_BO_33 [.int (7 : Int32), .int (σ160 k0 2)] [] (tg_2_1 _ h0k) (c_FA_meet (tg_2_1 _ h0k) (7 : Int32) (σ160 k0 2) σ160) rfl rfl (by decide) (Nat.le_of_ble_eq_true rfl) d_BO_close_112 ?_
            refine j_genM (fun σ210 => ?_)
            refine j_goto (tgt := 138) C d_BO_close_115 (by decide) ?_
            exact j_vret C (fun ρ h => leaf_eq h) d_BO_close_138
    · refine j_icmp_ne (tgt := 78) C d_BO_close_43 (by decide) (fun c159 => ?_) (fun c159 => ?_)
      · exact H162 σ
      · refine j_aload_n C d_BO_close_46 0 rfl ?_
        refine j_getR C h0k fl_BO_21 rfl d_BO_close_47 ?_
        refine j_aload_n C d_BO_close_50 0 rfl ?_
        refine j_getI C h0k fl_BO_9 rfl d_BO_close_51 ?_
        refine j_callVi C mv_BO_39 [.int (σ k0 2)] [] (tg_2_0 _ h0k) (c_BY_has (tg_2_0 _ h0k) (σ k0 2) σ) rfl rfl (by decide) (Nat.le_of_ble_eq_true rfl) d_BO_close_54 ?_
        refine j_if_ne (tgt := 78) C d_BO_close_57 (by decide) (fun c211 => ?_) (fun c211 => ?_)
        · exact H162 σ
        · refine j_aload_n C d_BO_close_60 0 rfl ?_
          refine j_getR C h0k fl_BO_25 rfl d_BO_close_61 ?_
          refine j_iconst (v := (1 : Int32)) C d_BO_close_64 (by decide) ?_
          refine j_aload_n C d_BO_close_65 0 rfl ?_
          refine j_getR C h0k fl_BO_21 rfl d_BO_close_66 ?_
          refine j_callVi C mv_BO_45 [] [.int (1 : Int32), .ref (fad F (wtg k0 1))] (tg_2_0 _ h0k) (c_BY_size (tg_2_0 _ h0k) σ) rfl rfl (by decide) (Nat.le_of_ble_eq_true rfl) d_BO_close_69 ?_
          refine j_callVv C mv_BO_33 [.int (1 : Int32), .int (f_BY_size (wtg k0 0) σ)] [] (tg_2_1 _ h0k) (c_FA_meet (tg_2_1 _ h0k) (1 : Int32) (f_BY_size (wtg k0 0) σ) σ) rfl rfl (by decide) (Nat.le_of_ble_eq_true rfl) d_BO_close_72 ?_
          refine j_genM (fun σ212 => ?_)
          refine j_goto (tgt := 138) C d_BO_close_75 (by decide) ?_
          exact j_vret C (fun ρ h => leaf_eq h) d_BO_close_138
  · refine j_aload_n C d_BO_close_18 0 rfl ?_
    refine j_getR C h0k fl_BO_25 rfl d_BO_close_19 ?_
    refine j_bipush (v := (7 : Int32)) C d_BO_close_22 (by decide) ?_
    refine j_aload_n C d_BO_close_24 0 rfl ?_
    refine j_getI C h0k fl_BO_9 rfl d_BO_close_25 ?_
    refine j_iconst (v := (1 : Int32)) C d_BO_close_28 (by decide) ?_
    refine j_isub C d_BO_close_29 ?_
    refine j_callVv C mv_BO_33 [.int (7 : Int32), .int ((σ k0 2) - (1 : Int32))] [] (tg_2_1 _ h0k) (c_FA_meet (tg_2_1 _ h0k) (7 : Int32) ((σ k0 2) - (1 : Int32)) σ) rfl rfl (by decide) (Nat.le_of_ble_eq_true rfl) d_BO_close_30 ?_
    refine j_genM (fun σ213 => ?_)
    refine j_goto (tgt := 138) C d_BO_close_33 (by decide) ?_
    exact j_vret C (fun ρ h => leaf_eq h) d_BO_close_138
theorem c_BO_close {l : Launch} {D : va_G} {G : GC} {ad : Nat → Nat} {k0 : Nat} (h0k : Is k0 2) (σ : Mem) : Ctr l D G ad ⟨"LineFrames$BitSource", "close", "()V"⟩ prog_3_method_5_code 2 none 1 22 [.ref (ad k0)] σ (.inl none, (f_BO_close k0 σ)) := ctr_J (cv := cvM) (E := f_BO_close k0 σ) (by decide +kernel) (Nat.le_of_ble_eq_true rfl) rfl (fun F h C => by subst h; exact w_BO_close C h0k σ)
/-! LineFrames$BitSource next ()I -/
theorem d_BO_next_0 : decode prog_3_method_3_code 0 = .ok (.aload_n 0, 1) := by decide +kernel
theorem d_BO_next_1 : decode prog_3_method_3_code 1 = .ok (.getfield 9, 3) := by decide +kernel
theorem d_BO_next_4 : decode prog_3_method_3_code 4 = .ok (.ireturn, 1) := by decide +kernel
def f_BO_next (k0 : Nat) (σ : Mem) : Int32 :=
  (σ k0 2)
set_option maxHeartbeats 4000000 in
set_option maxRecDepth 100000 in
theorem w_BO_next {F : Fx} (C : Ctx F prog_3_method_3_code 1 "LineFrames$BitSource" (some .int) 0 0) {k0 : Nat} (h0k : Is k0 2) (σ : Mem) : J F 1 (cvI σ) (f_BO_next k0 σ) σ 0 [(0, .ref (fad F k0))] [] := by
  unfold f_BO_next
  refine j_aload_n C d_BO_next_0 0 rfl ?_
  refine j_getI C h0k fl_BO_9 rfl d_BO_next_1 ?_
  exact j_ireti C (fun ρ h => leaf_eq h) d_BO_next_4
theorem c_BO_next {l : Launch} {D : va_G} {G : GC} {ad : Nat → Nat} {k0 : Nat} (h0k : Is k0 2) (σ : Mem) : Ctr l D G ad ⟨"LineFrames$BitSource", "next", "()I"⟩ prog_3_method_3_code 1 (some .int) 0 0 [.ref (ad k0)] σ (.inl (some (.int (f_BO_next k0 σ))), σ) := ctr_J (cv := (cvI σ)) (E := f_BO_next k0 σ) (by decide +kernel) (Nat.le_of_ble_eq_true rfl) rfl (fun F h C => by subst h; exact w_BO_next C h0k σ)
/-! LineFrames$StreamReader passRestart (I)V -/
theorem d_SR_passRestart_0 : decode prog_10_method_22_code 0 = .ok (.aload_n 0, 1) := by decide +kernel
theorem d_SR_passRestart_1 : decode prog_10_method_22_code 1 = .ok (.getfield 81, 3) := by decide +kernel
theorem d_SR_passRestart_4 : decode prog_10_method_22_code 4 = .ok (.invokevirtual 240, 3) := by decide +kernel
theorem d_SR_passRestart_7 : decode prog_10_method_22_code 7 = .ok (.aload_n 0, 1) := by decide +kernel
theorem d_SR_passRestart_8 : decode prog_10_method_22_code 8 = .ok (.getfield 81, 3) := by decide +kernel
theorem d_SR_passRestart_11 : decode prog_10_method_22_code 11 = .ok (.invokevirtual 246, 3) := by decide +kernel
theorem d_SR_passRestart_14 : decode prog_10_method_22_code 14 = .ok (.istore_n 2, 1) := by decide +kernel
theorem d_SR_passRestart_15 : decode prog_10_method_22_code 15 = .ok (.aload_n 0, 1) := by decide +kernel
theorem d_SR_passRestart_16 : decode prog_10_method_22_code 16 = .ok (.getfield 72, 3) := by decide +kernel
theorem d_SR_passRestart_19 : decode prog_10_method_22_code 19 = .ok (.invokevirtual 117, 3) := by decide +kernel
theorem d_SR_passRestart_22 : decode prog_10_method_22_code 22 = .ok (.iload_n 2, 1) := by decide +kernel
theorem d_SR_passRestart_23 : decode prog_10_method_22_code 23 = .ok (.isub, 1) := by decide +kernel
theorem d_SR_passRestart_24 : decode prog_10_method_22_code 24 = .ok (.iconst 2, 1) := by decide +kernel
theorem d_SR_passRestart_25 : decode prog_10_method_22_code 25 = .ok (.if_icmp .ge 21, 3) := by decide +kernel
theorem d_SR_passRestart_28 : decode prog_10_method_22_code 28 = .ok (.aload_n 0, 1) := by decide +kernel
theorem d_SR_passRestart_29 : decode prog_10_method_22_code 29 = .ok (.getfield 21, 3) := by decide +kernel
theorem d_SR_passRestart_32 : decode prog_10_method_22_code 32 = .ok (.iconst 1, 1) := by decide +kernel
theorem d_SR_passRestart_33 : decode prog_10_method_22_code 33 = .ok (.aload_n 0, 1) := by decide +kernel
theorem d_SR_passRestart_34 : decode prog_10_method_22_code 34 = .ok (.getfield 72, 3) := by decide +kernel
theorem d_SR_passRestart_37 : decode prog_10_method_22_code 37 = .ok (.invokevirtual 117, 3) := by decide +kernel
theorem d_SR_passRestart_40 : decode prog_10_method_22_code 40 = .ok (.invokevirtual 110, 3) := by decide +kernel
theorem d_SR_passRestart_43 : decode prog_10_method_22_code 43 = .ok (.goto 48, 3) := by decide +kernel
theorem d_SR_passRestart_46 : decode prog_10_method_22_code 46 = .ok (.aload_n 0, 1) := by decide +kernel
theorem d_SR_passRestart_47 : decode prog_10_method_22_code 47 = .ok (.getfield 72, 3) := by decide +kernel
theorem d_SR_passRestart_50 : decode prog_10_method_22_code 50 = .ok (.iload_n 2, 1) := by decide +kernel
theorem d_SR_passRestart_51 : decode prog_10_method_22_code 51 = .ok (.invokevirtual 123, 3) := by decide +kernel
theorem d_SR_passRestart_54 : decode prog_10_method_22_code 54 = .ok (.sipush 255, 3) := by decide +kernel
theorem d_SR_passRestart_57 : decode prog_10_method_22_code 57 = .ok (.if_icmp .ne 24, 3) := by decide +kernel
theorem d_SR_passRestart_60 : decode prog_10_method_22_code 60 = .ok (.aload_n 0, 1) := by decide +kernel
theorem d_SR_passRestart_61 : decode prog_10_method_22_code 61 = .ok (.getfield 72, 3) := by decide +kernel
theorem d_SR_passRestart_64 : decode prog_10_method_22_code 64 = .ok (.iload_n 2, 1) := by decide +kernel
theorem d_SR_passRestart_65 : decode prog_10_method_22_code 65 = .ok (.iconst 1, 1) := by decide +kernel
theorem d_SR_passRestart_66 : decode prog_10_method_22_code 66 = .ok (.iadd, 1) := by decide +kernel
theorem d_SR_passRestart_67 : decode prog_10_method_22_code 67 = .ok (.invokevirtual 123, 3) := by decide +kernel
theorem d_SR_passRestart_70 : decode prog_10_method_22_code 70 = .ok (.sipush 208, 3) := by decide +kernel
theorem d_SR_passRestart_73 : decode prog_10_method_22_code 73 = .ok (.iload_n 1, 1) := by decide +kernel
theorem d_SR_passRestart_74 : decode prog_10_method_22_code 74 = .ok (.bipush 8, 2) := by decide +kernel
theorem d_SR_passRestart_76 : decode prog_10_method_22_code 76 = .ok (.irem, 1) := by decide +kernel
theorem d_SR_passRestart_77 : decode prog_10_method_22_code 77 = .ok (.iadd, 1) := by decide +kernel
theorem d_SR_passRestart_78 : decode prog_10_method_22_code 78 = .ok (.if_icmp .eq 13, 3) := by decide +kernel
theorem d_SR_passRestart_81 : decode prog_10_method_22_code 81 = .ok (.aload_n 0, 1) := by decide +kernel
theorem d_SR_passRestart_82 : decode prog_10_method_22_code 82 = .ok (.getfield 21, 3) := by decide +kernel
theorem d_SR_passRestart_85 : decode prog_10_method_22_code 85 = .ok (.bipush 8, 2) := by decide +kernel
theorem d_SR_passRestart_87 : decode prog_10_method_22_code 87 = .ok (.iload_n 2, 1) := by decide +kernel
theorem d_SR_passRestart_88 : decode prog_10_method_22_code 88 = .ok (.invokevirtual 110, 3) := by decide +kernel
theorem d_SR_passRestart_91 : decode prog_10_method_22_code 91 = .ok (.aload_n 0, 1) := by decide +kernel
theorem d_SR_passRestart_92 : decode prog_10_method_22_code 92 = .ok (.getfield 21, 3) := by decide +kernel
theorem d_SR_passRestart_95 : decode prog_10_method_22_code 95 = .ok (.invokevirtual 92, 3) := by decide +kernel
theorem d_SR_passRestart_98 : decode prog_10_method_22_code 98 = .ok (.ifCond .ne 30, 3) := by decide +kernel
theorem d_SR_passRestart_101 : decode prog_10_method_22_code 101 = .ok (.aload_n 0, 1) := by decide +kernel
theorem d_SR_passRestart_102 : decode prog_10_method_22_code 102 = .ok (.dup, 1) := by decide +kernel
theorem d_SR_passRestart_103 : decode prog_10_method_22_code 103 = .ok (.getfield 66, 3) := by decide +kernel
theorem d_SR_passRestart_106 : decode prog_10_method_22_code 106 = .ok (.iconst 1, 1) := by decide +kernel
theorem d_SR_passRestart_107 : decode prog_10_method_22_code 107 = .ok (.iadd, 1) := by decide +kernel
theorem d_SR_passRestart_108 : decode prog_10_method_22_code 108 = .ok (.putfield 66, 3) := by decide +kernel
theorem d_SR_passRestart_111 : decode prog_10_method_22_code 111 = .ok (.aload_n 0, 1) := by decide +kernel
theorem d_SR_passRestart_112 : decode prog_10_method_22_code 112 = .ok (.getfield 34, 3) := by decide +kernel
theorem d_SR_passRestart_115 : decode prog_10_method_22_code 115 = .ok (.invokevirtual 248, 3) := by decide +kernel
theorem d_SR_passRestart_118 : decode prog_10_method_22_code 118 = .ok (.aload_n 0, 1) := by decide +kernel
theorem d_SR_passRestart_119 : decode prog_10_method_22_code 119 = .ok (.getfield 81, 3) := by decide +kernel
theorem d_SR_passRestart_122 : decode prog_10_method_22_code 122 = .ok (.iload_n 2, 1) := by decide +kernel
theorem d_SR_passRestart_123 : decode prog_10_method_22_code 123 = .ok (.iconst 2, 1) := by decide +kernel
theorem d_SR_passRestart_124 : decode prog_10_method_22_code 124 = .ok (.iadd, 1) := by decide +kernel
theorem d_SR_passRestart_125 : decode prog_10_method_22_code 125 = .ok (.invokevirtual 228, 3) := by decide +kernel
theorem d_SR_passRestart_128 : decode prog_10_method_22_code 128 = .ok (.return_, 1) := by decide +kernel
def f_SR_passRestart (k0 : Nat) (x1 : Int32) (σ : Mem) : Option (Mem) :=
  lt (f_BO_close (wtg k0 3) σ) fun σ1 =>
  lt (fun  (σ83 : Mem) => 
  if (f_FA_met (wtg k0 2) σ83) = 0 then
  lt (mput σ83 k0 12 ((σ83 k0 12) + (1 : Int32))) fun σ89 =>
  (f_MD_renew (wtg k0 4) σ89).bind fun σ91 =>
  lt (f_BO_begin (wtg k0 3) ((f_BO_next (wtg k0 3) σ1) + (2 : Int32)) σ91) fun σ92 =>
  some (σ92)
  else
  some (σ83)) fun K84 =>
  if (2 : Int32) ≤ ((f_BY_size (wtg k0 0) σ1) - (f_BO_next (wtg k0 3) σ1)) then
  lt (
  lt (f_FA_meet (wtg k0 2) (8 : Int32) (f_BO_next (wtg k0 3) σ1) σ1) fun σ106 =>
  K84 σ106) fun K104 =>
  if (f_BY_get (wtg k0 0) (f_BO_next (wtg k0 3) σ1) σ1) = (255 : Int32) then
  if (f_BY_get (wtg k0 0) ((f_BO_next (wtg k0 3) σ1) + (1 : Int32)) σ1) = ((208 : Int32) + (x1 - x1 / (8 : Int32) * (8 : Int32))) then
  K84 σ1
  else
  K104
  else
  K104
  else
  lt (f_FA_meet (wtg k0 2) (1 : Int32) (f_BY_size (wtg k0 0) σ1) σ1) fun σ108 =>
  K84 σ108
set_option maxHeartbeats 4000000 in
set_option maxRecDepth 100000 in
theorem w_SR_passRestart {F : Fx} (C : Ctx F prog_10_method_22_code 3 "LineFrames$StreamReader" none 2 43) {k0 : Nat} (h0k : Is k0 9) (x1 : Int32) (σ : Mem) : J F 3 (cvO cvM) (f_SR_passRestart k0 x1 σ) σ 0 [(0, .ref (fad F k0)), (1, .int x1)] [] := by
  unfold f_SR_passRestart
  refine j_aload_n C d_SR_passRestart_0 0 rfl ?_
  refine j_getR C h0k fl_SR_81 rfl d_SR_passRestart_1 ?_
  refine j_callVv C mv_SR_240 [] [] (tg_9_3 _ h0k) (c_BO_close (tg_9_3 _ h0k) σ) rfl rfl (by decide) (Nat.le_of_ble_eq_true rfl) d_SR_passRestart_4 ?_
  refine j_genM (fun σ1 => ?_)
  refine j_aload_n C d_SR_passRestart_7 0 rfl ?_
  refine j_getR C h0k fl_SR_81 rfl d_SR_passRestart_8 ?_
  refine j_callVi C mv_SR_246 [] [] (tg_9_3 _ h0k) (c_BO_next (tg_9_3 _ h0k) σ1) rfl rfl (by decide) (Nat.le_of_ble_eq_true rfl) d_SR_passRestart_11 ?_
  refine j_istore_n (lv9 := [(0, .ref (fad F k0)), (1, .int x1), (2, .int (f_BO_next (wtg k0 3) σ1))]) C d_SR_passRestart_14 rfl rfl (by decide) ?_
  refine j_aload_n C d_SR_passRestart_15 0 rfl ?_
  refine j_getR C h0k fl_SR_72 rfl d_SR_passRestart_16 ?_
  refine j_callVi C mv_SR_117 [] [] (tg_9_0 _ h0k) (c_BY_size (tg_9_0 _ h0k) σ1) rfl rfl (by decide) (Nat.le_of_ble_eq_true rfl) d_SR_passRestart_19 ?_
  refine j_iload_n C d_SR_passRestart_22 2 rfl ?_
  refine j_isub C d_SR_passRestart_23 ?_
  refine j_iconst (v := (2 : Int32)) C d_SR_passRestart_24 (by decide) ?_
  refine j_join0m 91 (fun _ => [(0, .ref (fad F k0)), (1, .int x1), (2, .int (f_BO_next (wtg k0 3) σ1))]) (fun _ => []) (fun σ83 => ?_) (fun K84 H85 => ?_)
  · refine j_aload_n C d_SR_passRestart_91 0 rfl ?_
    refine j_getR C h0k fl_SR_21 rfl d_SR_passRestart_92 ?_
    refine j_callVi C mv_SR_92 [] [] (tg_9_2 _ h0k) (c_FA_met (tg_9_2 _ h0k) σ83) rfl rfl (by decide) (Nat.le_of_ble_eq_true rfl) d_SR_passRestart_95 ?_
    refine j_if_ne (tgt := 128) C d_SR_passRestart_98 (by decide) (fun c88 => ?_) (fun c88 => ?_)
    · exact j_vret C (fun ρ h => leaf_eq h) d_SR_passRestart_128
    · refine j_aload_n C d_SR_passRestart_101 0 rfl ?_
      refine j_dup C d_SR_passRestart_102 rfl ?_
      refine j_getI C h0k fl_SR_66 rfl d_SR_passRestart_103 ?_
      refine j_iconst (v := (1 : Int32)) C d_SR_passRestart_106 (by decide) ?_
      refine j_iadd C d_SR_passRestart_107 ?_
      refine j_put C h0k fl_SR_66 fw_9_12 rfl rfl rfl d_SR_passRestart_108 (fun σ89 => ?_)
      refine j_aload_n C d_SR_passRestart_111 0 rfl ?_
      refine j_getR C h0k fl_SR_34 rfl d_SR_passRestart_112 ?_
      refine j_bind rfl (fun σ91 e90 => ?_)
      refine j_callVv C mv_SR_248 [] [] (tg_9_4 _ h0k) (c_MD_renew (tg_9_4 _ h0k) σ89 e90) rfl rfl (by decide) (Nat.le_of_ble_eq_true rfl) d_SR_passRestart_115 ?_
      refine j_aload_n C d_SR_passRestart_118 0 rfl ?_
      refine j_getR C h0k fl_SR_81 rfl d_SR_passRestart_119 ?_
      refine j_iload_n C d_SR_passRestart_122 2 rfl ?_
      refine j_iconst (v := (2 : Int32)) C d_SR_passRestart_123 (by decide) ?_
      refine j_iadd C d_SR_passRestart_124 ?_
      refine j_callVv C mv_SR_228 [.int ((f_BO_next (wtg k0 3) σ1) + (2 : Int32))] [] (tg_9_3 _ h0k) (c_BO_begin (tg_9_3 _ h0k) ((f_BO_next (wtg k0 3) σ1) + (2 : Int32)) σ91) rfl rfl (by decide) (Nat.le_of_ble_eq_true rfl) d_SR_passRestart_125 ?_
      refine j_genM (fun σ92 => ?_)
      exact j_vret C (fun ρ h => leaf_eq h) d_SR_passRestart_128
  · refine j_icmp_ge (tgt := 46) C d_SR_passRestart_25 (by decide) (fun c82 => ?_) (fun c82 => ?_)
    · refine j_aload_n C d_SR_passRestart_46 0 rfl ?_
      refine j_getR C h0k fl_SR_72 rfl d_SR_passRestart_47 ?_
      refine j_iload_n C d_SR_passRestart_50 2 rfl ?_
      refine j_callVi C mv_SR_123 [.int (f_BO_next (wtg k0 3) σ1)] [] (tg_9_0 _ h0k) (c_BY_get (tg_9_0 _ h0k) (f_BO_next (wtg k0 3) σ1) σ1) rfl rfl (by decide) (Nat.le_of_ble_eq_true rfl) d_SR_passRestart_51 ?_
      refine j_sipush (v := (255 : Int32)) C d_SR_passRestart_54 (by decide) ?_
      refine j_join0 81 ([(0, .ref (fad F k0)), (1, .int x1), (2, .int (f_BO_next (wtg k0 3) σ1))]) ([]) (?_) (fun K104 H105 => ?_)
      · refine j_aload_n C d_SR_passRestart_81 0 rfl ?_
        refine j_getR C h0k fl_SR_21 rfl d_SR_passRestart_82 ?_
        refine j_bipush (v := (8 : Int32)) C d_SR_passRestart_85 (by decide) ?_
        refine j_iload_n C d_SR_passRestart_87 2 rfl ?_
        refine j_callVv C mv_SR_110 [.int (8 : Int32), .int (f_BO_next (wtg k0 3) σ1)] [] (tg_9_2 _ h0k) (c_FA_meet (tg_9_2 _ h0k) (8 : Int32) (f_BO_next (wtg k0 3) σ1) σ1) rfl rfl (by decide) (Nat.le_of_ble_eq_true rfl) d_SR_passRestart_88 ?_
        refine j_genM (fun σ106 => ?_)
        exact H85 σ106
      · refine j_icmp_ne (tgt := 81) C d_SR_passRestart_57 (by decide) (fun c103 => ?_) (fun c103 => ?_)
        · exact H105
        · refine j_aload_n C d_SR_passRestart_60 0 rfl ?_
          refine j_getR C h0k fl_SR_72 rfl d_SR_passRestart_61 ?_
          refine j_iload_n C d_SR_passRestart_64 2 rfl ?_
          refine j_iconst (v := (1 : Int32)) C d_SR_passRestart_65 (by decide) ?_
          refine j_iadd C d_SR_passRestart_66 ?_
          refine j_callVi C mv_SR_123 [.int ((f_BO_next (wtg k0 3) σ1) + (1 : Int32))] [] (tg_9_0 _ h0k) (c_BY_get (tg_9_0 _ h0k) ((f_BO_next (wtg k0 3) σ1) + (1 : Int32)) σ1) rfl rfl (by decide) (Nat.le_of_ble_eq_true rfl) d_SR_passRestart_67 ?_
          refine j_sipush (v := (208 : Int32)) C d_SR_passRestart_70 (by decide) ?_
          refine j_iload_n C d_SR_passRestart_73 1 rfl ?_
          refine j_bipush (v := (8 : Int32)) C d_SR_passRestart_74 (by decide) ?_
          refine j_irem C d_SR_passRestart_76 (by decide) ?_
          refine j_iadd C d_SR_passRestart_77 ?_
          refine j_icmp_eq (tgt := 91) C d_SR_passRestart_78 (by decide) (fun c107 => ?_) (fun c107 => ?_)
          · exact H85 σ1
          · exact H105
    · refine j_aload_n C d_SR_passRestart_28 0 rfl ?_
      refine j_getR C h0k fl_SR_21 rfl d_SR_passRestart_29 ?_
      refine j_iconst (v := (1 : Int32)) C d_SR_passRestart_32 (by decide) ?_
      refine j_aload_n C d_SR_passRestart_33 0 rfl ?_
      refine j_getR C h0k fl_SR_72 rfl d_SR_passRestart_34 ?_
      refine j_callVi C mv_SR_117 [] [.int (1 : Int32), .ref (fad F (wtg k0 2))] (tg_9_0 _ h0k) (c_BY_size (tg_9_0 _ h0k) σ1) rfl rfl (by decide) (Nat.le_of_ble_eq_true rfl) d_SR_passRestart_37 ?_
      refine j_callVv C mv_SR_110 [.int (1 : Int32), .int (f_BY_size (wtg k0 0) σ1)] [] (tg_9_2 _ h0k) (c_FA_meet (tg_9_2 _ h0k) (1 : Int32) (f_BY_size (wtg k0 0) σ1) σ1) rfl rfl (by decide) (Nat.le_of_ble_eq_true rfl) d_SR_passRestart_40 ?_
      refine j_genM (fun σ108 => ?_)
      refine j_goto (tgt := 91) C d_SR_passRestart_43 (by decide) ?_
      exact H85 σ108
theorem c_SR_passRestart {l : Launch} {D : va_G} {G : GC} {ad : Nat → Nat} {k0 : Nat} (h0k : Is k0 9) (x1 : Int32) (σ : Mem) {q : Mem} (hq : f_SR_passRestart k0 x1 σ = some q) : Ctr l D G ad ⟨"LineFrames$StreamReader", "passRestart", "(I)V"⟩ prog_10_method_22_code 3 none 2 43 [.ref (ad k0), .int x1] σ (.inl none, q) := ctr_J (cv := (cvO cvM)) (E := f_SR_passRestart k0 x1 σ) (by decide +kernel) (Nat.le_of_ble_eq_true rfl) (by rw [hq]; rfl) (fun F h C => by subst h; exact w_SR_passRestart C h0k x1 σ)
/-! LineFrames placeOf (III)I -/
theorem d_LF_placeOf_0 : decode prog_1_method_22_code 0 = .ok (.iload_n 0, 1) := by decide +kernel
theorem d_LF_placeOf_1 : decode prog_1_method_22_code 1 = .ok (.sipush 144, 3) := by decide +kernel
theorem d_LF_placeOf_4 : decode prog_1_method_22_code 4 = .ok (.imul, 1) := by decide +kernel
theorem d_LF_placeOf_5 : decode prog_1_method_22_code 5 = .ok (.iload_n 2, 1) := by decide +kernel
theorem d_LF_placeOf_6 : decode prog_1_method_22_code 6 = .ok (.bipush 12, 2) := by decide +kernel
theorem d_LF_placeOf_8 : decode prog_1_method_22_code 8 = .ok (.imul, 1) := by decide +kernel
theorem d_LF_placeOf_9 : decode prog_1_method_22_code 9 = .ok (.iadd, 1) := by decide +kernel
theorem d_LF_placeOf_10 : decode prog_1_method_22_code 10 = .ok (.iload_n 1, 1) := by decide +kernel
theorem d_LF_placeOf_11 : decode prog_1_method_22_code 11 = .ok (.iadd, 1) := by decide +kernel
theorem d_LF_placeOf_12 : decode prog_1_method_22_code 12 = .ok (.ireturn, 1) := by decide +kernel
def f_LF_placeOf (x0 : Int32) (x1 : Int32) (x2 : Int32) (σ : Mem) : Int32 :=
  (((x0 * (144 : Int32)) + (x2 * (12 : Int32))) + x1)
set_option maxHeartbeats 4000000 in
set_option maxRecDepth 100000 in
theorem w_LF_placeOf {F : Fx} (C : Ctx F prog_1_method_22_code 3 "LineFrames" (some .int) 0 0) (x0 : Int32) (x1 : Int32) (x2 : Int32) (σ : Mem) : J F 3 (cvI σ) (f_LF_placeOf x0 x1 x2 σ) σ 0 [(0, .int x0), (1, .int x1), (2, .int x2)] [] := by
  unfold f_LF_placeOf
  refine j_iload_n C d_LF_placeOf_0 0 rfl ?_
  refine j_sipush (v := (144 : Int32)) C d_LF_placeOf_1 (by decide) ?_
  refine j_imul C d_LF_placeOf_4 ?_
  refine j_iload_n C d_LF_placeOf_5 2 rfl ?_
  refine j_bipush (v := (12 : Int32)) C d_LF_placeOf_6 (by decide) ?_
  refine j_imul C d_LF_placeOf_8 ?_
  refine j_iadd C d_LF_placeOf_9 ?_
  refine j_iload_n C d_LF_placeOf_10 1 rfl ?_
  refine j_iadd C d_LF_placeOf_11 ?_
  exact j_ireti C (fun ρ h => leaf_eq h) d_LF_placeOf_12
theorem c_LF_placeOf {l : Launch} {D : va_G} {G : GC} {ad : Nat → Nat} (x0 : Int32) (x1 : Int32) (x2 : Int32) (σ : Mem) : Ctr l D G ad ⟨"LineFrames", "placeOf", "(III)I"⟩ prog_1_method_22_code 3 (some .int) 0 0 [.int x0, .int x1, .int x2] σ (.inl (some (.int (f_LF_placeOf x0 x1 x2 σ))), σ) := ctr_J (cv := (cvI σ)) (E := f_LF_placeOf x0 x1 x2 σ) (by decide +kernel) (Nat.le_of_ble_eq_true rfl) rfl (fun F h C => by subst h; exact w_LF_placeOf C x0 x1 x2 σ)
/-! LineFrames$Model foretell (IIIZ)I -/
theorem d_MD_foretell_0 : decode prog_6_method_4_code 0 = .ok (.iload_n 1, 1) := by decide +kernel
theorem d_MD_foretell_1 : decode prog_6_method_4_code 1 = .ok (.iload_n 2, 1) := by decide +kernel
theorem d_MD_foretell_2 : decode prog_6_method_4_code 2 = .ok (.iload_n 3, 1) := by decide +kernel
theorem d_MD_foretell_3 : decode prog_6_method_4_code 3 = .ok (.invokestatic 66, 3) := by decide +kernel
theorem d_MD_foretell_6 : decode prog_6_method_4_code 6 = .ok (.istore 5, 2) := by decide +kernel
theorem d_MD_foretell_8 : decode prog_6_method_4_code 8 = .ok (.iload 4, 2) := by decide +kernel
theorem d_MD_foretell_10 : decode prog_6_method_4_code 10 = .ok (.ifCond .eq 7, 3) := by decide +kernel
theorem d_MD_foretell_13 : decode prog_6_method_4_code 13 = .ok (.iconst 0, 1) := by decide +kernel
theorem d_MD_foretell_14 : decode prog_6_method_4_code 14 = .ok (.goto 15, 3) := by decide +kernel
theorem d_MD_foretell_17 : decode prog_6_method_4_code 17 = .ok (.aload_n 0, 1) := by decide +kernel
theorem d_MD_foretell_18 : decode prog_6_method_4_code 18 = .ok (.getfield 42, 3) := by decide +kernel
theorem d_MD_foretell_21 : decode prog_6_method_4_code 21 = .ok (.iload 5, 2) := by decide +kernel
theorem d_MD_foretell_23 : decode prog_6_method_4_code 23 = .ok (.bipush 12, 2) := by decide +kernel
theorem d_MD_foretell_25 : decode prog_6_method_4_code 25 = .ok (.isub, 1) := by decide +kernel
theorem d_MD_foretell_26 : decode prog_6_method_4_code 26 = .ok (.invokevirtual 57, 3) := by decide +kernel
theorem d_MD_foretell_29 : decode prog_6_method_4_code 29 = .ok (.istore 6, 2) := by decide +kernel
theorem d_MD_foretell_31 : decode prog_6_method_4_code 31 = .ok (.iload_n 2, 1) := by decide +kernel
theorem d_MD_foretell_32 : decode prog_6_method_4_code 32 = .ok (.ifCond .ne 6, 3) := by decide +kernel
theorem d_MD_foretell_35 : decode prog_6_method_4_code 35 = .ok (.iload 6, 2) := by decide +kernel
theorem d_MD_foretell_37 : decode prog_6_method_4_code 37 = .ok (.ireturn, 1) := by decide +kernel
theorem d_MD_foretell_38 : decode prog_6_method_4_code 38 = .ok (.aload_n 0, 1) := by decide +kernel
theorem d_MD_foretell_39 : decode prog_6_method_4_code 39 = .ok (.getfield 42, 3) := by decide +kernel
theorem d_MD_foretell_42 : decode prog_6_method_4_code 42 = .ok (.iload 5, 2) := by decide +kernel
theorem d_MD_foretell_44 : decode prog_6_method_4_code 44 = .ok (.iconst 1, 1) := by decide +kernel
theorem d_MD_foretell_45 : decode prog_6_method_4_code 45 = .ok (.isub, 1) := by decide +kernel
theorem d_MD_foretell_46 : decode prog_6_method_4_code 46 = .ok (.invokevirtual 57, 3) := by decide +kernel
theorem d_MD_foretell_49 : decode prog_6_method_4_code 49 = .ok (.istore 7, 2) := by decide +kernel
theorem d_MD_foretell_51 : decode prog_6_method_4_code 51 = .ok (.iload 4, 2) := by decide +kernel
theorem d_MD_foretell_53 : decode prog_6_method_4_code 53 = .ok (.ifCond .eq 7, 3) := by decide +kernel
theorem d_MD_foretell_56 : decode prog_6_method_4_code 56 = .ok (.iconst 0, 1) := by decide +kernel
theorem d_MD_foretell_57 : decode prog_6_method_4_code 57 = .ok (.goto 17, 3) := by decide +kernel
theorem d_MD_foretell_60 : decode prog_6_method_4_code 60 = .ok (.aload_n 0, 1) := by decide +kernel
theorem d_MD_foretell_61 : decode prog_6_method_4_code 61 = .ok (.getfield 42, 3) := by decide +kernel
theorem d_MD_foretell_64 : decode prog_6_method_4_code 64 = .ok (.iload 5, 2) := by decide +kernel
theorem d_MD_foretell_66 : decode prog_6_method_4_code 66 = .ok (.bipush 12, 2) := by decide +kernel
theorem d_MD_foretell_68 : decode prog_6_method_4_code 68 = .ok (.isub, 1) := by decide +kernel
theorem d_MD_foretell_69 : decode prog_6_method_4_code 69 = .ok (.iconst 1, 1) := by decide +kernel
theorem d_MD_foretell_70 : decode prog_6_method_4_code 70 = .ok (.isub, 1) := by decide +kernel
theorem d_MD_foretell_71 : decode prog_6_method_4_code 71 = .ok (.invokevirtual 57, 3) := by decide +kernel
theorem d_MD_foretell_74 : decode prog_6_method_4_code 74 = .ok (.istore 8, 2) := by decide +kernel
theorem d_MD_foretell_76 : decode prog_6_method_4_code 76 = .ok (.iload 8, 2) := by decide +kernel
theorem d_MD_foretell_78 : decode prog_6_method_4_code 78 = .ok (.iload 7, 2) := by decide +kernel
theorem d_MD_foretell_80 : decode prog_6_method_4_code 80 = .ok (.iload 6, 2) := by decide +kernel
theorem d_MD_foretell_82 : decode prog_6_method_4_code 82 = .ok (.invokestatic 70, 3) := by decide +kernel
theorem d_MD_foretell_85 : decode prog_6_method_4_code 85 = .ok (.if_icmp .lt 11, 3) := by decide +kernel
theorem d_MD_foretell_88 : decode prog_6_method_4_code 88 = .ok (.iload 7, 2) := by decide +kernel
theorem d_MD_foretell_90 : decode prog_6_method_4_code 90 = .ok (.iload 6, 2) := by decide +kernel
theorem d_MD_foretell_92 : decode prog_6_method_4_code 92 = .ok (.invokestatic 76, 3) := by decide +kernel
theorem d_MD_foretell_95 : decode prog_6_method_4_code 95 = .ok (.ireturn, 1) := by decide +kernel
theorem d_MD_foretell_96 : decode prog_6_method_4_code 96 = .ok (.iload 8, 2) := by decide +kernel
theorem d_MD_foretell_98 : decode prog_6_method_4_code 98 = .ok (.iload 7, 2) := by decide +kernel
theorem d_MD_foretell_100 : decode prog_6_method_4_code 100 = .ok (.iload 6, 2) := by decide +kernel
theorem d_MD_foretell_102 : decode prog_6_method_4_code 102 = .ok (.invokestatic 76, 3) := by decide +kernel
theorem d_MD_foretell_105 : decode prog_6_method_4_code 105 = .ok (.if_icmp .gt 11, 3) := by decide +kernel
theorem d_MD_foretell_108 : decode prog_6_method_4_code 108 = .ok (.iload 7, 2) := by decide +kernel
theorem d_MD_foretell_110 : decode prog_6_method_4_code 110 = .ok (.iload 6, 2) := by decide +kernel
theorem d_MD_foretell_112 : decode prog_6_method_4_code 112 = .ok (.invokestatic 70, 3) := by decide +kernel
theorem d_MD_foretell_115 : decode prog_6_method_4_code 115 = .ok (.ireturn, 1) := by decide +kernel
theorem d_MD_foretell_116 : decode prog_6_method_4_code 116 = .ok (.iload 7, 2) := by decide +kernel
theorem d_MD_foretell_118 : decode prog_6_method_4_code 118 = .ok (.iload 6, 2) := by decide +kernel
theorem d_MD_foretell_120 : decode prog_6_method_4_code 120 = .ok (.iadd, 1) := by decide +kernel
theorem d_MD_foretell_121 : decode prog_6_method_4_code 121 = .ok (.iload 8, 2) := by decide +kernel
theorem d_MD_foretell_123 : decode prog_6_method_4_code 123 = .ok (.isub, 1) := by decide +kernel
theorem d_MD_foretell_124 : decode prog_6_method_4_code 124 = .ok (.ireturn, 1) := by decide +kernel
def f_MD_foretell (k0 : Nat) (x1 : Int32) (x2 : Int32) (x3 : Int32) (x4 : Int32) (σ : Mem) : Int32 :=
  lt (if x4 = 0 then (f_RO_get (wtg k0 0) ((f_LF_placeOf x1 x2 x3 σ) - (12 : Int32)) σ) else (0 : Int32)) fun v3 =>
  if x2 = 0 then
  v3
  else
  lt (f_RO_get (wtg k0 0) ((f_LF_placeOf x1 x2 x3 σ) - (1 : Int32)) σ) fun v5 =>
  lt (if x4 = 0 then (f_RO_get (wtg k0 0) (((f_LF_placeOf x1 x2 x3 σ) - (12 : Int32)) - (1 : Int32)) σ) else (0 : Int32)) fun v8 =>
  if v8 < (imax v5 v3) then
  if (imin v5 v3) < v8 then
  ((v5 + v3) - v8)
  else
  (imax v5 v3)
  else
  (imin v5 v3)
set_option maxHeartbeats 4000000 in
set_option maxRecDepth 100000 in
theorem w_MD_foretell {F : Fx} (C : Ctx F prog_6_method_4_code 9 "LineFrames$Model" (some .int) 1 22) {k0 : Nat} (h0k : Is k0 5) (x1 : Int32) (x2 : Int32) (x3 : Int32) (x4 : Int32) (σ : Mem) : J F 9 (cvI σ) (f_MD_foretell k0 x1 x2 x3 x4 σ) σ 0 [(0, .ref (fad F k0)), (1, .int x1), (2, .int x2), (3, .int x3), (4, .int x4)] [] := by
  unfold f_MD_foretell
  refine j_iload_n C d_MD_foretell_0 1 rfl ?_
  refine j_iload_n C d_MD_foretell_1 2 rfl ?_
  refine j_iload_n C d_MD_foretell_2 3 rfl ?_
  refine j_callSi C ms_MD_66 [.int x1, .int x2, .int x3] [] (c_LF_placeOf x1 x2 x3 σ) rfl rfl (by decide) (Nat.le_of_ble_eq_true rfl) d_MD_foretell_3 ?_
  refine j_istore (lv9 := [(0, .ref (fad F k0)), (1, .int x1), (2, .int x2), (3, .int x3), (4, .int x4), (5, .int (f_LF_placeOf x1 x2 x3 σ))]) C d_MD_foretell_6 rfl rfl (by decide) ?_
  refine j_iload C d_MD_foretell_8 4 rfl ?_
  refine d_if_eq (a := (f_RO_get (wtg k0 0) ((f_LF_placeOf x1 x2 x3 σ) - (12 : Int32)) σ)) (b := (0 : Int32)) (jp := 29) (tgt := 17) C d_MD_foretell_10 (by decide) (fun c1 k2 => ?_) (fun c1 k2 => ?_) ?_
  · refine j_aload_n C d_MD_foretell_17 0 rfl ?_
    refine j_getR C h0k fl_MD_42 rfl d_MD_foretell_18 ?_
    refine j_iload C d_MD_foretell_21 5 rfl ?_
    refine j_bipush (v := (12 : Int32)) C d_MD_foretell_23 (by decide) ?_
    refine j_isub C d_MD_foretell_25 ?_
    refine j_callVi C mv_MD_57 [.int ((f_LF_placeOf x1 x2 x3 σ) - (12 : Int32))] [] (tg_5_0 _ h0k) (c_RO_get (tg_5_0 _ h0k) ((f_LF_placeOf x1 x2 x3 σ) - (12 : Int32)) σ) rfl rfl (by decide) (Nat.le_of_ble_eq_true rfl) d_MD_foretell_26 ?_
    exact k2
  · refine j_iconst (v := (0 : Int32)) C d_MD_foretell_13 (by decide) ?_
    refine j_goto (tgt := 29) C d_MD_foretell_14 (by decide) ?_
    exact k2
  refine j_nm (fun v3 v3_e => ?_)
  refine j_istore (lv9 := [(0, .ref (fad F k0)), (1, .int x1), (2, .int x2), (3, .int x3), (4, .int x4), (5, .int (f_LF_placeOf x1 x2 x3 σ)), (6, .int v3)]) C d_MD_foretell_29 rfl rfl (by decide) ?_
  refine j_iload_n C d_MD_foretell_31 2 rfl ?_
  refine j_if_ne (tgt := 38) C d_MD_foretell_32 (by decide) (fun c4 => ?_) (fun c4 => ?_)
  · refine j_aload_n C d_MD_foretell_38 0 rfl ?_
    refine j_getR C h0k fl_MD_42 rfl d_MD_foretell_39 ?_
    refine j_iload C d_MD_foretell_42 5 rfl ?_
    refine j_iconst (v := (1 : Int32)) C d_MD_foretell_44 (by decide) ?_
    refine j_isub C d_MD_foretell_45 ?_
    refine j_callVi C mv_MD_57 [.int ((f_LF_placeOf x1 x2 x3 σ) - (1 : Int32))] [] (tg_5_0 _ h0k) (c_RO_get (tg_5_0 _ h0k) ((f_LF_placeOf x1 x2 x3 σ) - (1 : Int32)) σ) rfl rfl (by decide) (Nat.le_of_ble_eq_true rfl) d_MD_foretell_46 ?_
    refine j_nm (fun v5 v5_e => ?_)
    refine j_istore (lv9 := [(0, .ref (fad F k0)), (1, .int x1), (2, .int x2), (3, .int x3), (4, .int x4), (5, .int (f_LF_placeOf x1 x2 x3 σ)), (6, .int v3), (7, .int v5)]) C d_MD_foretell_49 rfl rfl (by decide) ?_
    refine j_iload C d_MD_foretell_51 4 rfl ?_
    refine d_if_eq (a := (f_RO_get (wtg k0 0) (((f_LF_placeOf x1 x2 x3 σ) - (12 : Int32)) - (1 : Int32)) σ)) (b := (0 : Int32)) (jp := 74) (tgt := 60) C d_MD_foretell_53 (by decide) (fun c6 k7 => ?_) (fun c6 k7 => ?_) ?_
    · refine j_aload_n C d_MD_foretell_60 0 rfl ?_
      refine j_getR C h0k fl_MD_42 rfl d_MD_foretell_61 ?_
      refine j_iload C d_MD_foretell_64 5 rfl ?_
      refine j_bipush (v := (12 : Int32)) C d_MD_foretell_66 (by decide) ?_
      refine j_isub C d_MD_foretell_68 ?_
      refine j_iconst (v := (1 : Int32)) C d_MD_foretell_69 (by decide) ?_
      refine j_isub C d_MD_foretell_70 ?_
      refine j_callVi C mv_MD_57 [.int (((f_LF_placeOf x1 x2 x3 σ) - (12 : Int32)) - (1 : Int32))] [] (tg_5_0 _ h0k) (c_RO_get (tg_5_0 _ h0k) (((f_LF_placeOf x1 x2 x3 σ) - (12 : Int32)) - (1 : Int32)) σ) rfl rfl (by decide) (Nat.le_of_ble_eq_true rfl) d_MD_foretell_71 ?_
      exact k7
    · refine j_iconst (v := (0 : Int32)) C d_MD_foretell_56 (by decide) ?_
      refine j_goto (tgt := 74) C d_MD_foretell_57 (by decide) ?_
      exact k7
    refine j_nm (fun v8 v8_e => ?_)
    refine j_istore (lv9 := [(0, .ref (fad F k0)), (1, .int x1), (2, .int x2), (3, .int x3), (4, .int x4), (5, .int (f_LF_placeOf x1 x2 x3 σ)), (6, .int v3), (7, .int v5), (8, .int v8)]) C d_MD_foretell_74 rfl rfl (by decide) ?_
    refine j_iload C d_MD_foretell_76 8 rfl ?_
    refine j_iload C d_MD_foretell_78 7 rfl ?_
    refine j_iload C d_MD_foretell_80 6 rfl ?_
    refine j_max C mm_MD_70 ⟨by decide, Nat.le_of_ble_eq_true rfl⟩ d_MD_foretell_82 ?_
    refine j_icmp_lt (tgt := 96) C d_MD_foretell_85 (by decide) (fun c9 => ?_) (fun c9 => ?_)
    · refine j_iload C d_MD_foretell_96 8 rfl ?_
      refine j_iload C d_MD_foretell_98 7 rfl ?_
      refine j_iload C d_MD_foretell_100 6 rfl ?_
      refine j_min C mm_MD_76 ⟨by decide, Nat.le_of_ble_eq_true rfl⟩ d_MD_foretell_102 ?_
      refine j_icmp_gt (tgt := 116) C d_MD_foretell_105 (by decide) (fun c10 => ?_) (fun c10 => ?_)
      · refine j_iload C d_MD_foretell_116 7 rfl ?_
        refine j_iload C d_MD_foretell_118 6 rfl ?_
        refine j_iadd C d_MD_foretell_120 ?_
        refine j_iload C d_MD_foretell_121 8 rfl ?_
        refine j_isub C d_MD_foretell_123 ?_
        exact j_ireti C (fun ρ h => leaf_eq h) d_MD_foretell_124
      · refine j_iload C d_MD_foretell_108 7 rfl ?_
        refine j_iload C d_MD_foretell_110 6 rfl ?_
        refine j_max C mm_MD_70 ⟨by decide, Nat.le_of_ble_eq_true rfl⟩ d_MD_foretell_112 ?_
        exact j_ireti C (fun ρ h => leaf_eq h) d_MD_foretell_115
    · refine j_iload C d_MD_foretell_88 7 rfl ?_
      refine j_iload C d_MD_foretell_90 6 rfl ?_
      refine j_min C mm_MD_76 ⟨by decide, Nat.le_of_ble_eq_true rfl⟩ d_MD_foretell_92 ?_
      exact j_ireti C (fun ρ h => leaf_eq h) d_MD_foretell_95
  · refine j_iload C d_MD_foretell_35 6 rfl ?_
    exact j_ireti C (fun ρ h => leaf_eq h) d_MD_foretell_37
theorem c_MD_foretell {l : Launch} {D : va_G} {G : GC} {ad : Nat → Nat} {k0 : Nat} (h0k : Is k0 5) (x1 : Int32) (x2 : Int32) (x3 : Int32) (x4 : Int32) (σ : Mem) : Ctr l D G ad ⟨"LineFrames$Model", "foretell", "(IIIZ)I"⟩ prog_6_method_4_code 9 (some .int) 1 22 [.ref (ad k0), .int x1, .int x2, .int x3, .int x4] σ (.inl (some (.int (f_MD_foretell k0 x1 x2 x3 x4 σ))), σ) := ctr_J (cv := (cvI σ)) (E := f_MD_foretell k0 x1 x2 x3 x4 σ) (by decide +kernel) (Nat.le_of_ble_eq_true rfl) rfl (fun F h C => by subst h; exact w_MD_foretell C h0k x1 x2 x3 x4 σ)
/-! LineFrames$Model shift (I)I -/
theorem d_MD_shift_0 : decode prog_6_method_5_code 0 = .ok (.aload_n 0, 1) := by decide +kernel
theorem d_MD_shift_1 : decode prog_6_method_5_code 1 = .ok (.getfield 14, 3) := by decide +kernel
theorem d_MD_shift_4 : decode prog_6_method_5_code 4 = .ok (.iload_n 1, 1) := by decide +kernel
theorem d_MD_shift_5 : decode prog_6_method_5_code 5 = .ok (.invokevirtual 57, 3) := by decide +kernel
theorem d_MD_shift_8 : decode prog_6_method_5_code 8 = .ok (.istore_n 2, 1) := by decide +kernel
theorem d_MD_shift_9 : decode prog_6_method_5_code 9 = .ok (.aload_n 0, 1) := by decide +kernel
theorem d_MD_shift_10 : decode prog_6_method_5_code 10 = .ok (.getfield 20, 3) := by decide +kernel
theorem d_MD_shift_13 : decode prog_6_method_5_code 13 = .ok (.iload_n 1, 1) := by decide +kernel
theorem d_MD_shift_14 : decode prog_6_method_5_code 14 = .ok (.invokevirtual 57, 3) := by decide +kernel
theorem d_MD_shift_17 : decode prog_6_method_5_code 17 = .ok (.istore_n 3, 1) := by decide +kernel
theorem d_MD_shift_18 : decode prog_6_method_5_code 18 = .ok (.iconst 0, 1) := by decide +kernel
theorem d_MD_shift_19 : decode prog_6_method_5_code 19 = .ok (.istore 4, 2) := by decide +kernel
theorem d_MD_shift_21 : decode prog_6_method_5_code 21 = .ok (.iload 4, 2) := by decide +kernel
theorem d_MD_shift_23 : decode prog_6_method_5_code 23 = .ok (.bipush 12, 2) := by decide +kernel
theorem d_MD_shift_25 : decode prog_6_method_5_code 25 = .ok (.if_icmp .ge 17, 3) := by decide +kernel
theorem d_MD_shift_28 : decode prog_6_method_5_code 28 = .ok (.iload_n 3, 1) := by decide +kernel
theorem d_MD_shift_29 : decode prog_6_method_5_code 29 = .ok (.iload 4, 2) := by decide +kernel
theorem d_MD_shift_31 : decode prog_6_method_5_code 31 = .ok (.ishl, 1) := by decide +kernel
theorem d_MD_shift_32 : decode prog_6_method_5_code 32 = .ok (.iload_n 2, 1) := by decide +kernel
theorem d_MD_shift_33 : decode prog_6_method_5_code 33 = .ok (.if_icmp .ge 9, 3) := by decide +kernel
theorem d_MD_shift_36 : decode prog_6_method_5_code 36 = .ok (.iinc 4 1, 3) := by decide +kernel
theorem d_MD_shift_39 : decode prog_6_method_5_code 39 = .ok (.goto (-18), 3) := by decide +kernel
theorem d_MD_shift_42 : decode prog_6_method_5_code 42 = .ok (.iload 4, 2) := by decide +kernel
theorem d_MD_shift_44 : decode prog_6_method_5_code 44 = .ok (.ireturn, 1) := by decide +kernel
def L_MD_shift_21 (r0 : Nat) (b1 : Int32) (b2 : Int32) (b3 : Int32) (σ : Mem) : Nat → Int32 →  Option (Int32)
  | 0, _ => none
  | n + 1, a4 =>
  if (12 : Int32) ≤ a4 then
  some a4
  else
  if b2 ≤ (b3 <<< (a4 &&& 31)) then
  some a4
  else
  L_MD_shift_21 r0 b1 b2 b3 σ n (a4 + (1 : Int32))
def f_MD_shift (k0 : Nat) (x1 : Int32) (σ : Mem) : Option (Int32) :=
  (L_MD_shift_21 k0 x1 (f_RO_get (wtg k0 1) x1 σ) (f_RO_get (wtg k0 2) x1 σ) σ 9999 (0 : Int32)).bind fun q3 =>
  some q3
set_option maxHeartbeats 4000000 in
set_option maxRecDepth 100000 in
theorem wL_MD_shift_21 {F : Fx} (C : Ctx F prog_6_method_5_code 5 "LineFrames$Model" (some .int) 1 21) {cv : Option (Int32) → Option Rs} (h0 : cv none = none) (r0 : Nat) (hr0 : Is r0 5) (b1 : Int32) (b2 : Int32) (b3 : Int32) (σ : Mem) (hex : ∀ q : Int32, J F 5 cv (some q) σ 42 [(0, .ref (fad F r0)), (1, .int b1), (2, .int b2), (3, .int b3), (4, .int q)] []) : ∀ (n : Nat) (a4 : Int32), J F 5 cv (L_MD_shift_21 r0 b1 b2 b3 σ n a4) σ 21 [(0, .ref (fad F r0)), (1, .int b1), (2, .int b2), (3, .int b3), (4, .int a4)] [] := by
  intro n
  induction n with
  | zero => intro a4 hE; rw [L_MD_shift_21, h0] at hE; cases hE
  | succ n ih =>
    intro a4
    rw [L_MD_shift_21]
    refine j_iload C d_MD_shift_21 4 rfl ?_
    refine j_bipush (v := (12 : Int32)) C d_MD_shift_23 (by decide) ?_
    refine j_icmp_ge (tgt := 42) C d_MD_shift_25 (by decide) (fun c1 => ?_) (fun c1 => ?_)
    · exact hex a4
    · refine j_iload_n C d_MD_shift_28 3 rfl ?_
      refine j_iload C d_MD_shift_29 4 rfl ?_
      refine j_ishl C d_MD_shift_31 ?_
      refine j_iload_n C d_MD_shift_32 2 rfl ?_
      refine j_icmp_ge (tgt := 42) C d_MD_shift_33 (by decide) (fun c2 => ?_) (fun c2 => ?_)
      · exact hex a4
      · refine j_iinc (v := (a4 + (1 : Int32))) (lv9 := [(0, .ref (fad F r0)), (1, .int b1), (2, .int b2), (3, .int b3), (4, .int (a4 + (1 : Int32)))]) C d_MD_shift_36 4 rfl rfl rfl rfl (by decide) ?_
        refine j_goto (tgt := 21) C d_MD_shift_39 (by decide) ?_
        exact ih (a4 + (1 : Int32))
set_option maxHeartbeats 4000000 in
set_option maxRecDepth 100000 in
theorem w_MD_shift {F : Fx} (C : Ctx F prog_6_method_5_code 5 "LineFrames$Model" (some .int) 1 21) {k0 : Nat} (h0k : Is k0 5) (x1 : Int32) (σ : Mem) : J F 5 (cvO (cvI σ)) (f_MD_shift k0 x1 σ) σ 0 [(0, .ref (fad F k0)), (1, .int x1)] [] := by
  unfold f_MD_shift
  refine j_aload_n C d_MD_shift_0 0 rfl ?_
  refine j_getR C h0k fl_MD_14 rfl d_MD_shift_1 ?_
  refine j_iload_n C d_MD_shift_4 1 rfl ?_
  refine j_callVi C mv_MD_57 [.int x1] [] (tg_5_1 _ h0k) (c_RO_get (tg_5_1 _ h0k) x1 σ) rfl rfl (by decide) (Nat.le_of_ble_eq_true rfl) d_MD_shift_5 ?_
  refine j_istore_n (lv9 := [(0, .ref (fad F k0)), (1, .int x1), (2, .int (f_RO_get (wtg k0 1) x1 σ))]) C d_MD_shift_8 rfl rfl (by decide) ?_
  refine j_aload_n C d_MD_shift_9 0 rfl ?_
  refine j_getR C h0k fl_MD_20 rfl d_MD_shift_10 ?_
  refine j_iload_n C d_MD_shift_13 1 rfl ?_
  refine j_callVi C mv_MD_57 [.int x1] [] (tg_5_2 _ h0k) (c_RO_get (tg_5_2 _ h0k) x1 σ) rfl rfl (by decide) (Nat.le_of_ble_eq_true rfl) d_MD_shift_14 ?_
  refine j_istore_n (lv9 := [(0, .ref (fad F k0)), (1, .int x1), (2, .int (f_RO_get (wtg k0 1) x1 σ)), (3, .int (f_RO_get (wtg k0 2) x1 σ))]) C d_MD_shift_17 rfl rfl (by decide) ?_
  refine j_iconst (v := (0 : Int32)) C d_MD_shift_18 (by decide) ?_
  refine j_istore (lv9 := [(0, .ref (fad F k0)), (1, .int x1), (2, .int (f_RO_get (wtg k0 1) x1 σ)), (3, .int (f_RO_get (wtg k0 2) x1 σ)), (4, .int (0 : Int32))]) C d_MD_shift_19 rfl rfl (by decide) ?_
  refine j_loop (wL_MD_shift_21 C rfl k0 h0k x1 (f_RO_get (wtg k0 1) x1 σ) (f_RO_get (wtg k0 2) x1 σ) σ (fun q3 => j_some ?_) 9999 (0 : Int32))
  refine j_iload C d_MD_shift_42 4 rfl ?_
  exact j_ireti C (fun ρ h => leaf_eq h) d_MD_shift_44
theorem c_MD_shift {l : Launch} {D : va_G} {G : GC} {ad : Nat → Nat} {k0 : Nat} (h0k : Is k0 5) (x1 : Int32) (σ : Mem) {q : Int32} (hq : f_MD_shift k0 x1 σ = some q) : Ctr l D G ad ⟨"LineFrames$Model", "shift", "(I)I"⟩ prog_6_method_5_code 5 (some .int) 1 21 [.ref (ad k0), .int x1] σ (.inl (some (.int q)), σ) := ctr_J (cv := (cvO (cvI σ))) (E := f_MD_shift k0 x1 σ) (by decide +kernel) (Nat.le_of_ble_eq_true rfl) (by rw [hq]; rfl) (fun F h C => by subst h; exact w_MD_shift C h0k x1 σ)
/-! LineFrames$BitSource fetch ()V -/
theorem d_BO_fetch_0 : decode prog_3_method_7_code 0 = .ok (.aload_n 0, 1) := by decide +kernel
theorem d_BO_fetch_1 : decode prog_3_method_7_code 1 = .ok (.getfield 21, 3) := by decide +kernel
theorem d_BO_fetch_4 : decode prog_3_method_7_code 4 = .ok (.aload_n 0, 1) := by decide +kernel
theorem d_BO_fetch_5 : decode prog_3_method_7_code 5 = .ok (.getfield 9, 3) := by decide +kernel
theorem d_BO_fetch_8 : decode prog_3_method_7_code 8 = .ok (.invokevirtual 39, 3) := by decide +kernel
theorem d_BO_fetch_11 : decode prog_3_method_7_code 11 = .ok (.ifCond .ne 19, 3) := by decide +kernel
theorem d_BO_fetch_14 : decode prog_3_method_7_code 14 = .ok (.aload_n 0, 1) := by decide +kernel
theorem d_BO_fetch_15 : decode prog_3_method_7_code 15 = .ok (.getfield 25, 3) := by decide +kernel
theorem d_BO_fetch_18 : decode prog_3_method_7_code 18 = .ok (.iconst 1, 1) := by decide +kernel
theorem d_BO_fetch_19 : decode prog_3_method_7_code 19 = .ok (.aload_n 0, 1) := by decide +kernel
theorem d_BO_fetch_20 : decode prog_3_method_7_code 20 = .ok (.getfield 21, 3) := by decide +kernel
theorem d_BO_fetch_23 : decode prog_3_method_7_code 23 = .ok (.invokevirtual 45, 3) := by decide +kernel
theorem d_BO_fetch_26 : decode prog_3_method_7_code 26 = .ok (.invokevirtual 33, 3) := by decide +kernel
theorem d_BO_fetch_29 : decode prog_3_method_7_code 29 = .ok (.return_, 1) := by decide +kernel
theorem d_BO_fetch_30 : decode prog_3_method_7_code 30 = .ok (.aload_n 0, 1) := by decide +kernel
theorem d_BO_fetch_31 : decode prog_3_method_7_code 31 = .ok (.getfield 21, 3) := by decide +kernel
theorem d_BO_fetch_34 : decode prog_3_method_7_code 34 = .ok (.aload_n 0, 1) := by decide +kernel
theorem d_BO_fetch_35 : decode prog_3_method_7_code 35 = .ok (.getfield 9, 3) := by decide +kernel
theorem d_BO_fetch_38 : decode prog_3_method_7_code 38 = .ok (.invokevirtual 49, 3) := by decide +kernel
theorem d_BO_fetch_41 : decode prog_3_method_7_code 41 = .ok (.istore_n 1, 1) := by decide +kernel
theorem d_BO_fetch_42 : decode prog_3_method_7_code 42 = .ok (.aload_n 0, 1) := by decide +kernel
theorem d_BO_fetch_43 : decode prog_3_method_7_code 43 = .ok (.getfield 15, 3) := by decide +kernel
theorem d_BO_fetch_46 : decode prog_3_method_7_code 46 = .ok (.sipush 255, 3) := by decide +kernel
theorem d_BO_fetch_49 : decode prog_3_method_7_code 49 = .ok (.if_icmp .ne 23, 3) := by decide +kernel
theorem d_BO_fetch_52 : decode prog_3_method_7_code 52 = .ok (.iload_n 1, 1) := by decide +kernel
theorem d_BO_fetch_53 : decode prog_3_method_7_code 53 = .ok (.bipush 127, 2) := by decide +kernel
theorem d_BO_fetch_55 : decode prog_3_method_7_code 55 = .ok (.if_icmp .le 17, 3) := by decide +kernel
theorem d_BO_fetch_58 : decode prog_3_method_7_code 58 = .ok (.aload_n 0, 1) := by decide +kernel
theorem d_BO_fetch_59 : decode prog_3_method_7_code 59 = .ok (.getfield 25, 3) := by decide +kernel
theorem d_BO_fetch_62 : decode prog_3_method_7_code 62 = .ok (.bipush 7, 2) := by decide +kernel
theorem d_BO_fetch_64 : decode prog_3_method_7_code 64 = .ok (.aload_n 0, 1) := by decide +kernel
theorem d_BO_fetch_65 : decode prog_3_method_7_code 65 = .ok (.getfield 9, 3) := by decide +kernel
theorem d_BO_fetch_68 : decode prog_3_method_7_code 68 = .ok (.invokevirtual 33, 3) := by decide +kernel
theorem d_BO_fetch_71 : decode prog_3_method_7_code 71 = .ok (.return_, 1) := by decide +kernel
theorem d_BO_fetch_72 : decode prog_3_method_7_code 72 = .ok (.aload_n 0, 1) := by decide +kernel
theorem d_BO_fetch_73 : decode prog_3_method_7_code 73 = .ok (.aload_n 0, 1) := by decide +kernel
theorem d_BO_fetch_74 : decode prog_3_method_7_code 74 = .ok (.getfield 15, 3) := by decide +kernel
theorem d_BO_fetch_77 : decode prog_3_method_7_code 77 = .ok (.sipush 255, 3) := by decide +kernel
theorem d_BO_fetch_80 : decode prog_3_method_7_code 80 = .ok (.if_icmp .ne 8, 3) := by decide +kernel
theorem d_BO_fetch_83 : decode prog_3_method_7_code 83 = .ok (.bipush 7, 2) := by decide +kernel
theorem d_BO_fetch_85 : decode prog_3_method_7_code 85 = .ok (.goto 5, 3) := by decide +kernel
theorem d_BO_fetch_88 : decode prog_3_method_7_code 88 = .ok (.bipush 8, 2) := by decide +kernel
theorem d_BO_fetch_90 : decode prog_3_method_7_code 90 = .ok (.putfield 18, 3) := by decide +kernel
theorem d_BO_fetch_93 : decode prog_3_method_7_code 93 = .ok (.aload_n 0, 1) := by decide +kernel
theorem d_BO_fetch_94 : decode prog_3_method_7_code 94 = .ok (.iload_n 1, 1) := by decide +kernel
theorem d_BO_fetch_95 : decode prog_3_method_7_code 95 = .ok (.putfield 15, 3) := by decide +kernel
theorem d_BO_fetch_98 : decode prog_3_method_7_code 98 = .ok (.aload_n 0, 1) := by decide +kernel
theorem d_BO_fetch_99 : decode prog_3_method_7_code 99 = .ok (.dup, 1) := by decide +kernel
theorem d_BO_fetch_100 : decode prog_3_method_7_code 100 = .ok (.getfield 9, 3) := by decide +kernel
theorem d_BO_fetch_103 : decode prog_3_method_7_code 103 = .ok (.iconst 1, 1) := by decide +kernel
theorem d_BO_fetch_104 : decode prog_3_method_7_code 104 = .ok (.iadd, 1) := by decide +kernel
theorem d_BO_fetch_105 : decode prog_3_method_7_code 105 = .ok (.putfield 9, 3) := by decide +kernel
theorem d_BO_fetch_108 : decode prog_3_method_7_code 108 = .ok (.return_, 1) := by decide +kernel
def f_BO_fetch (k0 : Nat) (σ : Mem) : Mem :=
  if (f_BY_has (wtg k0 0) (σ k0 2) σ) = 0 then
  lt (f_FA_meet (wtg k0 1) (1 : Int32) (f_BY_size (wtg k0 0) σ) σ) fun σ79 =>
  σ79
  else
  lt (fun  (σ69 : Mem) => 
  lt (mput σ69 k0 4 (if (σ69 k0 3) = (255 : Int32) then (7 : Int32) else (8 : Int32))) fun σ74 =>
  lt (mput σ74 k0 3 (f_BY_get (wtg k0 0) (σ k0 2) σ)) fun σ75 =>
  lt (mput σ75 k0 2 ((σ75 k0 2) + (1 : Int32))) fun σ76 =>
  σ76) fun K70 =>
  if (σ k0 3) = (255 : Int32) then
  if (f_BY_get (wtg k0 0) (σ k0 2) σ) ≤ (127 : Int32) then
  K70 σ
  else
  lt (f_FA_meet (wtg k0 1) (7 : Int32) (σ k0 2) σ) fun σ78 =>
  σ78
  else
  K70 σ
set_option maxHeartbeats 4000000 in
set_option maxRecDepth 100000 in
theorem w_BO_fetch {F : Fx} (C : Ctx F prog_3_method_7_code 2 "LineFrames$BitSource" none 1 22) {k0 : Nat} (h0k : Is k0 2) (σ : Mem) : J F 2 cvM (f_BO_fetch k0 σ) σ 0 [(0, .ref (fad F k0))] [] := by
  unfold f_BO_fetch
  refine j_aload_n C d_BO_fetch_0 0 rfl ?_
  refine j_getR C h0k fl_BO_21 rfl d_BO_fetch_1 ?_
  refine j_aload_n C d_BO_fetch_4 0 rfl ?_
  refine j_getI C h0k fl_BO_9 rfl d_BO_fetch_5 ?_
  refine j_callVi C mv_BO_39 [.int (σ k0 2)] [] (tg_2_0 _ h0k) (c_BY_has (tg_2_0 _ h0k) (σ k0 2) σ) rfl rfl (by decide) (Nat.le_of_ble_eq_true rfl) d_BO_fetch_8 ?_
  refine j_if_ne (tgt := 30) C d_BO_fetch_11 (by decide) (fun c1 => ?_) (fun c1 => ?_)
  · refine j_aload_n C d_BO_fetch_30 0 rfl ?_
    refine j_getR C h0k fl_BO_21 rfl d_BO_fetch_31 ?_
    refine j_aload_n C d_BO_fetch_34 0 rfl ?_
    refine j_getI C h0k fl_BO_9 rfl d_BO_fetch_35 ?_
    refine j_callVi C mv_BO_49 [.int (σ k0 2)] [] (tg_2_0 _ h0k) (c_BY_get (tg_2_0 _ h0k) (σ k0 2) σ) rfl rfl (by decide) (Nat.le_of_ble_eq_true rfl) d_BO_fetch_38 ?_
    refine j_istore_n (lv9 := [(0, .ref (fad F k0)), (1, .int (f_BY_get (wtg k0 0) (σ k0 2) σ))]) C d_BO_fetch_41 rfl rfl (by decide) ?_
    refine j_aload_n C d_BO_fetch_42 0 rfl ?_
    refine j_getI C h0k fl_BO_15 rfl d_BO_fetch_43 ?_
    refine j_sipush (v := (255 : Int32)) C d_BO_fetch_46 (by decide) ?_
    refine j_join0m 72 (fun _ => [(0, .ref (fad F k0)), (1, .int (f_BY_get (wtg k0 0) (σ k0 2) σ))]) (fun _ => []) (fun σ69 => ?_) (fun K70 H71 => ?_)
    · refine j_aload_n C d_BO_fetch_72 0 rfl ?_
      refine j_aload_n C d_BO_fetch_73 0 rfl ?_
      refine j_getI C h0k fl_BO_15 rfl d_BO_fetch_74 ?_
      refine j_sipush (v := (255 : Int32)) C d_BO_fetch_77 (by decide) ?_
      refine d_icmp_ne (a := (7 : Int32)) (b := (8 : Int32)) (jp := 90) (tgt := 88) C d_BO_fetch_80 (by decide) (fun c72 k73 => ?_) (fun c72 k73 => ?_) ?_
      · refine j_bipush (v := (8 : Int32)) C d_BO_fetch_88 (by decide) ?_
        exact k73
      · refine j_bipush (v := (7 : Int32)) C d_BO_fetch_83 (by decide) ?_
        refine j_goto (tgt := 90) C d_BO_fetch_85 (by decide) ?_
        exact k73
      refine j_put C h0k fl_BO_18 fw_2_4 rfl rfl rfl d_BO_fetch_90 (fun σ74 => ?_)
      refine j_aload_n C d_BO_fetch_93 0 rfl ?_
      refine j_iload_n C d_BO_fetch_94 1 rfl ?_
      refine j_put C h0k fl_BO_15 fw_2_3 rfl rfl rfl d_BO_fetch_95 (fun σ75 => ?_)
      refine j_aload_n C d_BO_fetch_98 0 rfl ?_
      refine j_dup C d_BO_fetch_99 rfl ?_
      refine j_getI C h0k fl_BO_9 rfl d_BO_fetch_100 ?_
      refine j_iconst (v := (1 : Int32)) C d_BO_fetch_103 (by decide) ?_
      refine j_iadd C d_BO_fetch_104 ?_
      refine j_put C h0k fl_BO_9 fw_2_2 rfl rfl rfl d_BO_fetch_105 (fun σ76 => ?_)
      exact j_vret C (fun ρ h => leaf_eq h) d_BO_fetch_108
    · refine j_icmp_ne (tgt := 72) C d_BO_fetch_49 (by decide) (fun c68 => ?_) (fun c68 => ?_)
      · exact H71 σ
      · refine j_iload_n C d_BO_fetch_52 1 rfl ?_
        refine j_bipush (v := (127 : Int32)) C d_BO_fetch_53 (by decide) ?_
        refine j_icmp_le (tgt := 72) C d_BO_fetch_55 (by decide) (fun c77 => ?_) (fun c77 => ?_)
        · exact H71 σ
        · refine j_aload_n C d_BO_fetch_58 0 rfl ?_
          refine j_getR C h0k fl_BO_25 rfl d_BO_fetch_59 ?_
          refine j_bipush (v := (7 : Int32)) C d_BO_fetch_62 (by decide) ?_
          refine j_aload_n C d_BO_fetch_64 0 rfl ?_
          refine j_getI C h0k fl_BO_9 rfl d_BO_fetch_65 ?_
          refine j_callVv C mv_BO_33 [.int (7 : Int32), .int (σ k0 2)] [] (tg_2_1 _ h0k) (c_FA_meet (tg_2_1 _ h0k) (7 : Int32) (σ k0 2) σ) rfl rfl (by decide) (Nat.le_of_ble_eq_true rfl) d_BO_fetch_68 ?_
          refine j_genM (fun σ78 => ?_)
          exact j_vret C (fun ρ h => leaf_eq h) d_BO_fetch_71
  · refine j_aload_n C d_BO_fetch_14 0 rfl ?_
    refine j_getR C h0k fl_BO_25 rfl d_BO_fetch_15 ?_
    refine j_iconst (v := (1 : Int32)) C d_BO_fetch_18 (by decide) ?_
    refine j_aload_n C d_BO_fetch_19 0 rfl ?_
    refine j_getR C h0k fl_BO_21 rfl d_BO_fetch_20 ?_
    refine j_callVi C mv_BO_45 [] [.int (1 : Int32), .ref (fad F (wtg k0 1))] (tg_2_0 _ h0k) (c_BY_size (tg_2_0 _ h0k) σ) rfl rfl (by decide) (Nat.le_of_ble_eq_true rfl) d_BO_fetch_23 ?_
    refine j_callVv C mv_BO_33 [.int (1 : Int32), .int (f_BY_size (wtg k0 0) σ)] [] (tg_2_1 _ h0k) (c_FA_meet (tg_2_1 _ h0k) (1 : Int32) (f_BY_size (wtg k0 0) σ) σ) rfl rfl (by decide) (Nat.le_of_ble_eq_true rfl) d_BO_fetch_26 ?_
    refine j_genM (fun σ79 => ?_)
    exact j_vret C (fun ρ h => leaf_eq h) d_BO_fetch_29
theorem c_BO_fetch {l : Launch} {D : va_G} {G : GC} {ad : Nat → Nat} {k0 : Nat} (h0k : Is k0 2) (σ : Mem) : Ctr l D G ad ⟨"LineFrames$BitSource", "fetch", "()V"⟩ prog_3_method_7_code 2 none 1 22 [.ref (ad k0)] σ (.inl none, (f_BO_fetch k0 σ)) := ctr_J (cv := cvM) (E := f_BO_fetch k0 σ) (by decide +kernel) (Nat.le_of_ble_eq_true rfl) rfl (fun F h C => by subst h; exact w_BO_fetch C h0k σ)
/-! LineFrames$BitSource bits (I)I -/
theorem d_BO_bits_0 : decode prog_3_method_6_code 0 = .ok (.iconst 0, 1) := by decide +kernel
theorem d_BO_bits_1 : decode prog_3_method_6_code 1 = .ok (.istore_n 2, 1) := by decide +kernel
theorem d_BO_bits_2 : decode prog_3_method_6_code 2 = .ok (.iconst 0, 1) := by decide +kernel
theorem d_BO_bits_3 : decode prog_3_method_6_code 3 = .ok (.istore_n 3, 1) := by decide +kernel
theorem d_BO_bits_4 : decode prog_3_method_6_code 4 = .ok (.iload_n 3, 1) := by decide +kernel
theorem d_BO_bits_5 : decode prog_3_method_6_code 5 = .ok (.iload_n 1, 1) := by decide +kernel
theorem d_BO_bits_6 : decode prog_3_method_6_code 6 = .ok (.if_icmp .ge 63, 3) := by decide +kernel
theorem d_BO_bits_9 : decode prog_3_method_6_code 9 = .ok (.aload_n 0, 1) := by decide +kernel
theorem d_BO_bits_10 : decode prog_3_method_6_code 10 = .ok (.getfield 25, 3) := by decide +kernel
theorem d_BO_bits_13 : decode prog_3_method_6_code 13 = .ok (.invokevirtual 52, 3) := by decide +kernel
theorem d_BO_bits_16 : decode prog_3_method_6_code 16 = .ok (.ifCond .ne 53, 3) := by decide +kernel
theorem d_BO_bits_19 : decode prog_3_method_6_code 19 = .ok (.aload_n 0, 1) := by decide +kernel
theorem d_BO_bits_20 : decode prog_3_method_6_code 20 = .ok (.getfield 18, 3) := by decide +kernel
theorem d_BO_bits_23 : decode prog_3_method_6_code 23 = .ok (.ifCond .ne 7, 3) := by decide +kernel
theorem d_BO_bits_26 : decode prog_3_method_6_code 26 = .ok (.aload_n 0, 1) := by decide +kernel
theorem d_BO_bits_27 : decode prog_3_method_6_code 27 = .ok (.invokevirtual 56, 3) := by decide +kernel
theorem d_BO_bits_30 : decode prog_3_method_6_code 30 = .ok (.aload_n 0, 1) := by decide +kernel
theorem d_BO_bits_31 : decode prog_3_method_6_code 31 = .ok (.getfield 18, 3) := by decide +kernel
theorem d_BO_bits_34 : decode prog_3_method_6_code 34 = .ok (.ifCond .le 29, 3) := by decide +kernel
theorem d_BO_bits_37 : decode prog_3_method_6_code 37 = .ok (.aload_n 0, 1) := by decide +kernel
theorem d_BO_bits_38 : decode prog_3_method_6_code 38 = .ok (.dup, 1) := by decide +kernel
theorem d_BO_bits_39 : decode prog_3_method_6_code 39 = .ok (.getfield 18, 3) := by decide +kernel
theorem d_BO_bits_42 : decode prog_3_method_6_code 42 = .ok (.iconst 1, 1) := by decide +kernel
theorem d_BO_bits_43 : decode prog_3_method_6_code 43 = .ok (.isub, 1) := by decide +kernel
theorem d_BO_bits_44 : decode prog_3_method_6_code 44 = .ok (.putfield 18, 3) := by decide +kernel
theorem d_BO_bits_47 : decode prog_3_method_6_code 47 = .ok (.iload_n 2, 1) := by decide +kernel
theorem d_BO_bits_48 : decode prog_3_method_6_code 48 = .ok (.iconst 2, 1) := by decide +kernel
theorem d_BO_bits_49 : decode prog_3_method_6_code 49 = .ok (.imul, 1) := by decide +kernel
theorem d_BO_bits_50 : decode prog_3_method_6_code 50 = .ok (.aload_n 0, 1) := by decide +kernel
theorem d_BO_bits_51 : decode prog_3_method_6_code 51 = .ok (.getfield 15, 3) := by decide +kernel
theorem d_BO_bits_54 : decode prog_3_method_6_code 54 = .ok (.aload_n 0, 1) := by decide +kernel
theorem d_BO_bits_55 : decode prog_3_method_6_code 55 = .ok (.getfield 18, 3) := by decide +kernel
theorem d_BO_bits_58 : decode prog_3_method_6_code 58 = .ok (.ishr, 1) := by decide +kernel
theorem d_BO_bits_59 : decode prog_3_method_6_code 59 = .ok (.iconst 1, 1) := by decide +kernel
theorem d_BO_bits_60 : decode prog_3_method_6_code 60 = .ok (.iand, 1) := by decide +kernel
theorem d_BO_bits_61 : decode prog_3_method_6_code 61 = .ok (.iadd, 1) := by decide +kernel
theorem d_BO_bits_62 : decode prog_3_method_6_code 62 = .ok (.istore_n 2, 1) := by decide +kernel
theorem d_BO_bits_63 : decode prog_3_method_6_code 63 = .ok (.iinc 3 1, 3) := by decide +kernel
theorem d_BO_bits_66 : decode prog_3_method_6_code 66 = .ok (.goto (-62), 3) := by decide +kernel
theorem d_BO_bits_69 : decode prog_3_method_6_code 69 = .ok (.iload_n 2, 1) := by decide +kernel
theorem d_BO_bits_70 : decode prog_3_method_6_code 70 = .ok (.ireturn, 1) := by decide +kernel
def L_BO_bits_4 (r0 : Nat) (b1 : Int32) : Nat → Int32 → Int32 → Mem →  Option (Int32 × Int32 × Mem)
  | 0, _, _, _ => none
  | n + 1, a2, a3, σ =>
  if b1 ≤ a3 then
  some (a2, a3, σ)
  else
  if (f_FA_met (wtg r0 1) σ) = 0 then
  lt (fun  (σ90 : Mem) => 
  lt (fun (y98 : Int32) (σ99 : Mem) => 
  L_BO_bits_4 r0 b1 n y98 (a3 + (1 : Int32)) σ99) fun K100 =>
  if (σ90 r0 4) ≤ 0 then
  K100 a2 σ90
  else
  lt (mput σ90 r0 4 ((σ90 r0 4) - (1 : Int32))) fun σ102 =>
  lt ((a2 * (2 : Int32)) + (((σ102 r0 3) >>> ((σ102 r0 4) &&& 31)) &&& (1 : Int32))) fun v103 =>
  K100 v103 σ102) fun K91 =>
  if (σ r0 4) = 0 then
  lt (f_BO_fetch r0 σ) fun σ104 =>
  K91 σ104
  else
  K91 σ
  else
  some (a2, a3, σ)
def f_BO_bits (k0 : Nat) (x1 : Int32) (σ : Mem) : Option (Int32 × Mem) :=
  (L_BO_bits_4 k0 x1 9999 (0 : Int32) (0 : Int32) σ).bind fun q105 =>
  some (q105.1, q105.2.2)
set_option maxHeartbeats 4000000 in
set_option maxRecDepth 100000 in
theorem wL_BO_bits_4 {F : Fx} (C : Ctx F prog_3_method_6_code 4 "LineFrames$BitSource" (some .int) 2 43) {cv : Option (Int32 × Int32 × Mem) → Option Rs} (h0 : cv none = none) (r0 : Nat) (hr0 : Is r0 2) (b1 : Int32) (hex : ∀ q : Int32 × Int32 × Mem, J F 4 cv (some q) q.2.2 69 [(0, .ref (fad F r0)), (1, .int b1), (2, .int q.1), (3, .int q.2.1)] []) : ∀ (n : Nat) (a2 : Int32) (a3 : Int32) (σ : Mem), J F 4 cv (L_BO_bits_4 r0 b1 n a2 a3 σ) σ 4 [(0, .ref (fad F r0)), (1, .int b1), (2, .int a2), (3, .int a3)] [] := by
  intro n
  induction n with
  | zero => intro a2 a3 σ hE; rw [L_BO_bits_4, h0] at hE; cases hE
  | succ n ih =>
    intro a2 a3 σ
    rw [L_BO_bits_4]
    refine j_iload_n C d_BO_bits_4 3 rfl ?_
    refine j_iload_n C d_BO_bits_5 1 rfl ?_
    refine j_icmp_ge (tgt := 69) C d_BO_bits_6 (by decide) (fun c1 => ?_) (fun c1 => ?_)
    · exact hex (a2, a3, σ)
    · refine j_aload_n C d_BO_bits_9 0 rfl ?_
      refine j_getR C hr0 fl_BO_25 rfl d_BO_bits_10 ?_
      refine j_callVi C mv_BO_52 [] [] (tg_2_1 _ hr0) (c_FA_met (tg_2_1 _ hr0) σ) rfl rfl (by decide) (Nat.le_of_ble_eq_true rfl) d_BO_bits_13 ?_
      refine j_if_ne (tgt := 69) C d_BO_bits_16 (by decide) (fun c2 => ?_) (fun c2 => ?_)
      · exact hex (a2, a3, σ)
      · refine j_aload_n C d_BO_bits_19 0 rfl ?_
        refine j_getI C hr0 fl_BO_18 rfl d_BO_bits_20 ?_
        refine j_join0m 30 (fun _ => [(0, .ref (fad F r0)), (1, .int b1), (2, .int a2), (3, .int a3)]) (fun _ => []) (fun σ90 => ?_) (fun K91 H92 => ?_)
        · refine j_aload_n C d_BO_bits_30 0 rfl ?_
          refine j_getI C hr0 fl_BO_18 rfl d_BO_bits_31 ?_
          refine j_join1m 63 (fun y98 _ => [(0, .ref (fad F r0)), (1, .int b1), (2, .int y98), (3, .int a3)]) (fun _ _ => []) (fun y98 σ99 => ?_) (fun K100 H101 => ?_)
          · refine j_iinc (v := (a3 + (1 : Int32))) (lv9 := [(0, .ref (fad F r0)), (1, .int b1), (2, .int y98), (3, .int (a3 + (1 : Int32)))]) C d_BO_bits_63 3 rfl rfl rfl rfl (by decide) ?_
            refine j_goto (tgt := 4) C d_BO_bits_66 (by decide) ?_
            exact ih y98 (a3 + (1 : Int32)) σ99
          · refine j_if_le (tgt := 63) C d_BO_bits_34 (by decide) (fun c97 => ?_) (fun c97 => ?_)
            · exact H101 a2 σ90
            · refine j_aload_n C d_BO_bits_37 0 rfl ?_
              refine j_dup C d_BO_bits_38 rfl ?_
              refine j_getI C hr0 fl_BO_18 rfl d_BO_bits_39 ?_
              refine j_iconst (v := (1 : Int32)) C d_BO_bits_42 (by decide) ?_
              refine j_isub C d_BO_bits_43 ?_
              refine j_put C hr0 fl_BO_18 fw_2_4 rfl rfl rfl d_BO_bits_44 (fun σ102 => ?_)
              refine j_iload_n C d_BO_bits_47 2 rfl ?_
              refine j_iconst (v := (2 : Int32)) C d_BO_bits_48 (by decide) ?_
              refine j_imul C d_BO_bits_49 ?_
              refine j_aload_n C d_BO_bits_50 0 rfl ?_
              refine j_getI C hr0 fl_BO_15 rfl d_BO_bits_51 ?_
              refine j_aload_n C d_BO_bits_54 0 rfl ?_
              refine j_getI C hr0 fl_BO_18 rfl d_BO_bits_55 ?_
              refine j_ishr C d_BO_bits_58 ?_
              refine j_iconst (v := (1 : Int32)) C d_BO_bits_59 (by decide) ?_
              refine j_iand C d_BO_bits_60 ?_
              refine j_iadd C d_BO_bits_61 ?_
              refine j_nm (fun v103 v103_e => ?_)
              refine j_istore_n (lv9 := [(0, .ref (fad F r0)), (1, .int b1), (2, .int v103), (3, .int a3)]) C d_BO_bits_62 rfl rfl (by decide) ?_
              exact H101 v103 σ102
        · refine j_if_ne (tgt := 30) C d_BO_bits_23 (by decide) (fun c89 => ?_) (fun c89 => ?_)
          · exact H92 σ
          · refine j_aload_n C d_BO_bits_26 0 rfl ?_
            refine j_callVv C mv_BO_56 [] [] hr0 (c_BO_fetch hr0 σ) rfl rfl (by decide) (Nat.le_of_ble_eq_true rfl) d_BO_bits_27 ?_
            refine j_genM (fun σ104 => ?_)
            exact H92 σ104
set_option maxHeartbeats 4000000 in
set_option maxRecDepth 100000 in
theorem w_BO_bits {F : Fx} (C : Ctx F prog_3_method_6_code 4 "LineFrames$BitSource" (some .int) 2 43) {k0 : Nat} (h0k : Is k0 2) (x1 : Int32) (σ : Mem) : J F 4 (cvO cvIM) (f_BO_bits k0 x1 σ) σ 0 [(0, .ref (fad F k0)), (1, .int x1)] [] := by
  unfold f_BO_bits
  refine j_iconst (v := (0 : Int32)) C d_BO_bits_0 (by decide) ?_
  refine j_istore_n (lv9 := [(0, .ref (fad F k0)), (1, .int x1), (2, .int (0 : Int32))]) C d_BO_bits_1 rfl rfl (by decide) ?_
  refine j_iconst (v := (0 : Int32)) C d_BO_bits_2 (by decide) ?_
  refine j_istore_n (lv9 := [(0, .ref (fad F k0)), (1, .int x1), (2, .int (0 : Int32)), (3, .int (0 : Int32))]) C d_BO_bits_3 rfl rfl (by decide) ?_
  refine j_loop (wL_BO_bits_4 C rfl k0 h0k x1 (fun q105 => j_some ?_) 9999 (0 : Int32) (0 : Int32) σ)
  refine j_iload_n C d_BO_bits_69 2 rfl ?_
  exact j_ireti C (fun ρ h => leaf_eq h) d_BO_bits_70
theorem c_BO_bits {l : Launch} {D : va_G} {G : GC} {ad : Nat → Nat} {k0 : Nat} (h0k : Is k0 2) (x1 : Int32) (σ : Mem) {q : Int32 × Mem} (hq : f_BO_bits k0 x1 σ = some q) : Ctr l D G ad ⟨"LineFrames$BitSource", "bits", "(I)I"⟩ prog_3_method_6_code 4 (some .int) 2 43 [.ref (ad k0), .int x1] σ (.inl (some (.int q.1)), q.2) := ctr_J (cv := (cvO cvIM)) (E := f_BO_bits k0 x1 σ) (by decide +kernel) (Nat.le_of_ble_eq_true rfl) (by rw [hq]; rfl) (fun F h C => by subst h; exact w_BO_bits C h0k x1 σ)
/-! LineFrames$BitSource code (I)I -/
theorem d_BO_code_0 : decode prog_3_method_4_code 0 = .ok (.iconst 0, 1) := by decide +kernel
theorem d_BO_code_1 : decode prog_3_method_4_code 1 = .ok (.istore_n 2, 1) := by decide +kernel
theorem d_BO_code_2 : decode prog_3_method_4_code 2 = .ok (.iload_n 2, 1) := by decide +kernel
theorem d_BO_code_3 : decode prog_3_method_4_code 3 = .ok (.bipush 20, 2) := by decide +kernel
theorem d_BO_code_5 : decode prog_3_method_4_code 5 = .ok (.if_icmp .gt 17, 3) := by decide +kernel
theorem d_BO_code_8 : decode prog_3_method_4_code 8 = .ok (.aload_n 0, 1) := by decide +kernel
theorem d_BO_code_9 : decode prog_3_method_4_code 9 = .ok (.iconst 1, 1) := by decide +kernel
theorem d_BO_code_10 : decode prog_3_method_4_code 10 = .ok (.invokevirtual 29, 3) := by decide +kernel
theorem d_BO_code_13 : decode prog_3_method_4_code 13 = .ok (.ifCond .ne 9, 3) := by decide +kernel
theorem d_BO_code_16 : decode prog_3_method_4_code 16 = .ok (.iinc 2 1, 3) := by decide +kernel
theorem d_BO_code_19 : decode prog_3_method_4_code 19 = .ok (.goto (-17), 3) := by decide +kernel
theorem d_BO_code_22 : decode prog_3_method_4_code 22 = .ok (.iload_n 2, 1) := by decide +kernel
theorem d_BO_code_23 : decode prog_3_method_4_code 23 = .ok (.bipush 20, 2) := by decide +kernel
theorem d_BO_code_25 : decode prog_3_method_4_code 25 = .ok (.if_icmp .le 20, 3) := by decide +kernel
theorem d_BO_code_28 : decode prog_3_method_4_code 28 = .ok (.aload_n 0, 1) := by decide +kernel
theorem d_BO_code_29 : decode prog_3_method_4_code 29 = .ok (.getfield 25, 3) := by decide +kernel
theorem d_BO_code_32 : decode prog_3_method_4_code 32 = .ok (.bipush 7, 2) := by decide +kernel
theorem d_BO_code_34 : decode prog_3_method_4_code 34 = .ok (.aload_n 0, 1) := by decide +kernel
theorem d_BO_code_35 : decode prog_3_method_4_code 35 = .ok (.getfield 9, 3) := by decide +kernel
theorem d_BO_code_38 : decode prog_3_method_4_code 38 = .ok (.iconst 1, 1) := by decide +kernel
theorem d_BO_code_39 : decode prog_3_method_4_code 39 = .ok (.isub, 1) := by decide +kernel
theorem d_BO_code_40 : decode prog_3_method_4_code 40 = .ok (.invokevirtual 33, 3) := by decide +kernel
theorem d_BO_code_43 : decode prog_3_method_4_code 43 = .ok (.iconst 0, 1) := by decide +kernel
theorem d_BO_code_44 : decode prog_3_method_4_code 44 = .ok (.ireturn, 1) := by decide +kernel
theorem d_BO_code_45 : decode prog_3_method_4_code 45 = .ok (.iload_n 2, 1) := by decide +kernel
theorem d_BO_code_46 : decode prog_3_method_4_code 46 = .ok (.bipush 20, 2) := by decide +kernel
theorem d_BO_code_48 : decode prog_3_method_4_code 48 = .ok (.if_icmp .ne 12, 3) := by decide +kernel
theorem d_BO_code_51 : decode prog_3_method_4_code 51 = .ok (.aload_n 0, 1) := by decide +kernel
theorem d_BO_code_52 : decode prog_3_method_4_code 52 = .ok (.bipush 9, 2) := by decide +kernel
theorem d_BO_code_54 : decode prog_3_method_4_code 54 = .ok (.invokevirtual 29, 3) := by decide +kernel
theorem d_BO_code_57 : decode prog_3_method_4_code 57 = .ok (.goto 12, 3) := by decide +kernel
theorem d_BO_code_60 : decode prog_3_method_4_code 60 = .ok (.iload_n 2, 1) := by decide +kernel
theorem d_BO_code_61 : decode prog_3_method_4_code 61 = .ok (.iload_n 1, 1) := by decide +kernel
theorem d_BO_code_62 : decode prog_3_method_4_code 62 = .ok (.ishl, 1) := by decide +kernel
theorem d_BO_code_63 : decode prog_3_method_4_code 63 = .ok (.aload_n 0, 1) := by decide +kernel
theorem d_BO_code_64 : decode prog_3_method_4_code 64 = .ok (.iload_n 1, 1) := by decide +kernel
theorem d_BO_code_65 : decode prog_3_method_4_code 65 = .ok (.invokevirtual 29, 3) := by decide +kernel
theorem d_BO_code_68 : decode prog_3_method_4_code 68 = .ok (.iadd, 1) := by decide +kernel
theorem d_BO_code_69 : decode prog_3_method_4_code 69 = .ok (.ireturn, 1) := by decide +kernel
def L_BO_code_2 (r0 : Nat) (b1 : Int32) : Nat → Int32 → Mem →  Option (Int32 × Mem)
  | 0, _, _ => none
  | n + 1, a2, σ =>
  if (20 : Int32) < a2 then
  some (a2, σ)
  else
  (f_BO_bits r0 (1 : Int32) σ).bind fun q3 =>
  if q3.1 = 0 then
  L_BO_code_2 r0 b1 n (a2 + (1 : Int32)) q3.2
  else
  some (a2, q3.2)
def f_BO_code (k0 : Nat) (x1 : Int32) (σ : Mem) : Option (Int32 × Mem) :=
  (L_BO_code_2 k0 x1 9999 (0 : Int32) σ).bind fun q5 =>
  if q5.1 ≤ (20 : Int32) then
  if q5.1 = (20 : Int32) then
  (f_BO_bits k0 (9 : Int32) q5.2).bind fun q13 =>
  some (q13.1, q13.2)
  else
  (f_BO_bits k0 x1 q5.2).bind fun q11 =>
  some (((q5.1 <<< (x1 &&& 31)) + q11.1), q11.2)
  else
  lt (f_FA_meet (wtg k0 1) (7 : Int32) ((q5.2 k0 2) - (1 : Int32)) q5.2) fun σ14 =>
  some ((0 : Int32), σ14)
set_option maxHeartbeats 4000000 in
set_option maxRecDepth 100000 in
theorem wL_BO_code_2 {F : Fx} (C : Ctx F prog_3_method_4_code 3 "LineFrames$BitSource" (some .int) 3 66) {cv : Option (Int32 × Mem) → Option Rs} (h0 : cv none = none) (r0 : Nat) (hr0 : Is r0 2) (b1 : Int32) (hex : ∀ q : Int32 × Mem, J F 3 cv (some q) q.2 22 [(0, .ref (fad F r0)), (1, .int b1), (2, .int q.1)] []) : ∀ (n : Nat) (a2 : Int32) (σ : Mem), J F 3 cv (L_BO_code_2 r0 b1 n a2 σ) σ 2 [(0, .ref (fad F r0)), (1, .int b1), (2, .int a2)] [] := by
  intro n
  induction n with
  | zero => intro a2 σ hE; rw [L_BO_code_2, h0] at hE; cases hE
  | succ n ih =>
    intro a2 σ
    rw [L_BO_code_2]
    refine j_iload_n C d_BO_code_2 2 rfl ?_
    refine j_bipush (v := (20 : Int32)) C d_BO_code_3 (by decide) ?_
    refine j_icmp_gt (tgt := 22) C d_BO_code_5 (by decide) (fun c1 => ?_) (fun c1 => ?_)
    · exact hex (a2, σ)
    · refine j_aload_n C d_BO_code_8 0 rfl ?_
      refine j_iconst (v := (1 : Int32)) C d_BO_code_9 (by decide) ?_
      refine j_bind h0 (fun q3 e2 => ?_)
      refine j_callVi C mv_BO_29 [.int (1 : Int32)] [] hr0 (c_BO_bits hr0 (1 : Int32) σ e2) rfl rfl (by decide) (Nat.le_of_ble_eq_true rfl) d_BO_code_10 ?_
      refine j_if_ne (tgt := 22) C d_BO_code_13 (by decide) (fun c4 => ?_) (fun c4 => ?_)
      · exact hex (a2, q3.2)
      · refine j_iinc (v := (a2 + (1 : Int32))) (lv9 := [(0, .ref (fad F r0)), (1, .int b1), (2, .int (a2 + (1 : Int32)))]) C d_BO_code_16 2 rfl rfl rfl rfl (by decide) ?_
        refine j_goto (tgt := 2) C d_BO_code_19 (by decide) ?_
        exact ih (a2 + (1 : Int32)) q3.2
set_option maxHeartbeats 4000000 in
set_option maxRecDepth 100000 in
theorem w_BO_code {F : Fx} (C : Ctx F prog_3_method_4_code 3 "LineFrames$BitSource" (some .int) 3 66) {k0 : Nat} (h0k : Is k0 2) (x1 : Int32) (σ : Mem) : J F 3 (cvO cvIM) (f_BO_code k0 x1 σ) σ 0 [(0, .ref (fad F k0)), (1, .int x1)] [] := by
  unfold f_BO_code
  refine j_iconst (v := (0 : Int32)) C d_BO_code_0 (by decide) ?_
  refine j_istore_n (lv9 := [(0, .ref (fad F k0)), (1, .int x1), (2, .int (0 : Int32))]) C d_BO_code_1 rfl rfl (by decide) ?_
  refine j_loop (wL_BO_code_2 C rfl k0 h0k x1 (fun q5 => j_some ?_) 9999 (0 : Int32) σ)
  refine j_iload_n C d_BO_code_22 2 rfl ?_
  refine j_bipush (v := (20 : Int32)) C d_BO_code_23 (by decide) ?_
  refine j_icmp_le (tgt := 45) C d_BO_code_25 (by decide) (fun c6 => ?_) (fun c6 => ?_)
  · refine j_iload_n C d_BO_code_45 2 rfl ?_
    refine j_bipush (v := (20 : Int32)) C d_BO_code_46 (by decide) ?_
    refine j_icmp_ne (tgt := 60) C d_BO_code_48 (by decide) (fun c9 => ?_) (fun c9 => ?_)
    · refine j_iload_n C d_BO_code_60 2 rfl ?_
      refine j_iload_n C d_BO_code_61 1 rfl ?_
      refine j_ishl C d_BO_code_62 ?_
      refine j_aload_n C d_BO_code_63 0 rfl ?_
      refine j_iload_n C d_BO_code_64 1 rfl ?_
      refine j_bind rfl (fun q11 e10 => ?_)
      refine j_callVi C mv_BO_29 [.int x1] [.int (q5.1 <<< (x1 &&& 31))] h0k (c_BO_bits h0k x1 q5.2 e10) rfl rfl (by decide) (Nat.le_of_ble_eq_true rfl) d_BO_code_65 ?_
      refine j_iadd C d_BO_code_68 ?_
      exact j_ireti C (fun ρ h => leaf_eq h) d_BO_code_69
    · refine j_aload_n C d_BO_code_51 0 rfl ?_
      refine j_bipush (v := (9 : Int32)) C d_BO_code_52 (by decide) ?_
      refine j_bind rfl (fun q13 e12 => ?_)
      refine j_callVi C mv_BO_29 [.int (9 : Int32)] [] h0k (c_BO_bits h0k (9 : Int32) q5.2 e12) rfl rfl (by decide) (Nat.le_of_ble_eq_true rfl) d_BO_code_54 ?_
      refine j_goto (tgt := 69) C d_BO_code_57 (by decide) ?_
      exact j_ireti C (fun ρ h => leaf_eq h) d_BO_code_69
  · refine j_aload_n C d_BO_code_28 0 rfl ?_
    refine j_getR C h0k fl_BO_25 rfl d_BO_code_29 ?_
    refine j_bipush (v := (7 : Int32)) C d_BO_code_32 (by decide) ?_
    refine j_aload_n C d_BO_code_34 0 rfl ?_
    refine j_getI C h0k fl_BO_9 rfl d_BO_code_35 ?_
    refine j_iconst (v := (1 : Int32)) C d_BO_code_38 (by decide) ?_
    refine j_isub C d_BO_code_39 ?_
    refine j_callVv C mv_BO_33 [.int (7 : Int32), .int ((q5.2 k0 2) - (1 : Int32))] [] (tg_2_1 _ h0k) (c_FA_meet (tg_2_1 _ h0k) (7 : Int32) ((q5.2 k0 2) - (1 : Int32)) q5.2) rfl rfl (by decide) (Nat.le_of_ble_eq_true rfl) d_BO_code_40 ?_
    refine j_genM (fun σ14 => ?_)
    refine j_iconst (v := (0 : Int32)) C d_BO_code_43 (by decide) ?_
    exact j_ireti C (fun ρ h => leaf_eq h) d_BO_code_44
theorem c_BO_code {l : Launch} {D : va_G} {G : GC} {ad : Nat → Nat} {k0 : Nat} (h0k : Is k0 2) (x1 : Int32) (σ : Mem) {q : Int32 × Mem} (hq : f_BO_code k0 x1 σ = some q) : Ctr l D G ad ⟨"LineFrames$BitSource", "code", "(I)I"⟩ prog_3_method_4_code 3 (some .int) 3 66 [.ref (ad k0), .int x1] σ (.inl (some (.int q.1)), q.2) := ctr_J (cv := (cvO cvIM)) (E := f_BO_code k0 x1 σ) (by decide +kernel) (Nat.le_of_ble_eq_true rfl) (by rw [hq]; rfl) (fun F h C => by subst h; exact w_BO_code C h0k x1 σ)
/-! LineFrames$Model toSample (I)I -/
theorem d_MD_toSample_0 : decode prog_6_method_9_code 0 = .ok (.iconst 0, 1) := by decide +kernel
theorem d_MD_toSample_1 : decode prog_6_method_9_code 1 = .ok (.aload_n 0, 1) := by decide +kernel
theorem d_MD_toSample_2 : decode prog_6_method_9_code 2 = .ok (.getfield 23, 3) := by decide +kernel
theorem d_MD_toSample_5 : decode prog_6_method_9_code 5 = .ok (.iload_n 1, 1) := by decide +kernel
theorem d_MD_toSample_6 : decode prog_6_method_9_code 6 = .ok (.invokestatic 76, 3) := by decide +kernel
theorem d_MD_toSample_9 : decode prog_6_method_9_code 9 = .ok (.invokestatic 70, 3) := by decide +kernel
theorem d_MD_toSample_12 : decode prog_6_method_9_code 12 = .ok (.ireturn, 1) := by decide +kernel
def f_MD_toSample (k0 : Nat) (x1 : Int32) (σ : Mem) : Int32 :=
  (imax (0 : Int32) (imin (σ k0 3) x1))
set_option maxHeartbeats 4000000 in
set_option maxRecDepth 100000 in
theorem w_MD_toSample {F : Fx} (C : Ctx F prog_6_method_9_code 2 "LineFrames$Model" (some .int) 1 21) {k0 : Nat} (h0k : Is k0 5) (x1 : Int32) (σ : Mem) : J F 2 (cvI σ) (f_MD_toSample k0 x1 σ) σ 0 [(0, .ref (fad F k0)), (1, .int x1)] [] := by
  unfold f_MD_toSample
  refine j_iconst (v := (0 : Int32)) C d_MD_toSample_0 (by decide) ?_
  refine j_aload_n C d_MD_toSample_1 0 rfl ?_
  refine j_getI C h0k fl_MD_23 rfl d_MD_toSample_2 ?_
  refine j_iload_n C d_MD_toSample_5 1 rfl ?_
  refine j_min C mm_MD_76 ⟨by decide, Nat.le_of_ble_eq_true rfl⟩ d_MD_toSample_6 ?_
  refine j_max C mm_MD_70 ⟨by decide, Nat.le_of_ble_eq_true rfl⟩ d_MD_toSample_9 ?_
  exact j_ireti C (fun ρ h => leaf_eq h) d_MD_toSample_12
theorem c_MD_toSample {l : Launch} {D : va_G} {G : GC} {ad : Nat → Nat} {k0 : Nat} (h0k : Is k0 5) (x1 : Int32) (σ : Mem) : Ctr l D G ad ⟨"LineFrames$Model", "toSample", "(I)I"⟩ prog_6_method_9_code 2 (some .int) 1 21 [.ref (ad k0), .int x1] σ (.inl (some (.int (f_MD_toSample k0 x1 σ))), σ) := ctr_J (cv := (cvI σ)) (E := f_MD_toSample k0 x1 σ) (by decide +kernel) (Nat.le_of_ble_eq_true rfl) rfl (fun F h C => by subst h; exact w_MD_toSample C h0k x1 σ)
/-! LineFrames$Model learn (II)V -/
theorem d_MD_learn_0 : decode prog_6_method_10_code 0 = .ok (.aload_n 0, 1) := by decide +kernel
theorem d_MD_learn_1 : decode prog_6_method_10_code 1 = .ok (.getfield 14, 3) := by decide +kernel
theorem d_MD_learn_4 : decode prog_6_method_10_code 4 = .ok (.iload_n 1, 1) := by decide +kernel
theorem d_MD_learn_5 : decode prog_6_method_10_code 5 = .ok (.invokevirtual 57, 3) := by decide +kernel
theorem d_MD_learn_8 : decode prog_6_method_10_code 8 = .ok (.istore_n 3, 1) := by decide +kernel
theorem d_MD_learn_9 : decode prog_6_method_10_code 9 = .ok (.aload_n 0, 1) := by decide +kernel
theorem d_MD_learn_10 : decode prog_6_method_10_code 10 = .ok (.getfield 20, 3) := by decide +kernel
theorem d_MD_learn_13 : decode prog_6_method_10_code 13 = .ok (.iload_n 1, 1) := by decide +kernel
theorem d_MD_learn_14 : decode prog_6_method_10_code 14 = .ok (.invokevirtual 57, 3) := by decide +kernel
theorem d_MD_learn_17 : decode prog_6_method_10_code 17 = .ok (.istore 4, 2) := by decide +kernel
theorem d_MD_learn_19 : decode prog_6_method_10_code 19 = .ok (.iload 4, 2) := by decide +kernel
theorem d_MD_learn_21 : decode prog_6_method_10_code 21 = .ok (.aload_n 0, 1) := by decide +kernel
theorem d_MD_learn_22 : decode prog_6_method_10_code 22 = .ok (.getfield 36, 3) := by decide +kernel
theorem d_MD_learn_25 : decode prog_6_method_10_code 25 = .ok (.if_icmp .ne 13, 3) := by decide +kernel
theorem d_MD_learn_28 : decode prog_6_method_10_code 28 = .ok (.iload_n 3, 1) := by decide +kernel
theorem d_MD_learn_29 : decode prog_6_method_10_code 29 = .ok (.iconst 2, 1) := by decide +kernel
theorem d_MD_learn_30 : decode prog_6_method_10_code 30 = .ok (.idiv, 1) := by decide +kernel
theorem d_MD_learn_31 : decode prog_6_method_10_code 31 = .ok (.istore_n 3, 1) := by decide +kernel
theorem d_MD_learn_32 : decode prog_6_method_10_code 32 = .ok (.iload 4, 2) := by decide +kernel
theorem d_MD_learn_34 : decode prog_6_method_10_code 34 = .ok (.iconst 2, 1) := by decide +kernel
theorem d_MD_learn_35 : decode prog_6_method_10_code 35 = .ok (.idiv, 1) := by decide +kernel
theorem d_MD_learn_36 : decode prog_6_method_10_code 36 = .ok (.istore 4, 2) := by decide +kernel
theorem d_MD_learn_38 : decode prog_6_method_10_code 38 = .ok (.aload_n 0, 1) := by decide +kernel
theorem d_MD_learn_39 : decode prog_6_method_10_code 39 = .ok (.getfield 14, 3) := by decide +kernel
theorem d_MD_learn_42 : decode prog_6_method_10_code 42 = .ok (.iload_n 1, 1) := by decide +kernel
theorem d_MD_learn_43 : decode prog_6_method_10_code 43 = .ok (.iload_n 3, 1) := by decide +kernel
theorem d_MD_learn_44 : decode prog_6_method_10_code 44 = .ok (.iload_n 2, 1) := by decide +kernel
theorem d_MD_learn_45 : decode prog_6_method_10_code 45 = .ok (.invokestatic 89, 3) := by decide +kernel
theorem d_MD_learn_48 : decode prog_6_method_10_code 48 = .ok (.iadd, 1) := by decide +kernel
theorem d_MD_learn_49 : decode prog_6_method_10_code 49 = .ok (.invokevirtual 82, 3) := by decide +kernel
theorem d_MD_learn_52 : decode prog_6_method_10_code 52 = .ok (.aload_n 0, 1) := by decide +kernel
theorem d_MD_learn_53 : decode prog_6_method_10_code 53 = .ok (.getfield 20, 3) := by decide +kernel
theorem d_MD_learn_56 : decode prog_6_method_10_code 56 = .ok (.iload_n 1, 1) := by decide +kernel
theorem d_MD_learn_57 : decode prog_6_method_10_code 57 = .ok (.iload 4, 2) := by decide +kernel
theorem d_MD_learn_59 : decode prog_6_method_10_code 59 = .ok (.iconst 1, 1) := by decide +kernel
theorem d_MD_learn_60 : decode prog_6_method_10_code 60 = .ok (.iadd, 1) := by decide +kernel
theorem d_MD_learn_61 : decode prog_6_method_10_code 61 = .ok (.invokevirtual 82, 3) := by decide +kernel
theorem d_MD_learn_64 : decode prog_6_method_10_code 64 = .ok (.return_, 1) := by decide +kernel
def f_MD_learn (k0 : Nat) (x1 : Int32) (x2 : Int32) (σ : Mem) : Mem :=
  lt (fun (y34 : Int32) (y35 : Int32) => 
  lt (f_RO_set (wtg k0 1) x1 (y34 + (iabs x2)) σ) fun σ38 =>
  lt (f_RO_set (wtg k0 2) x1 (y35 + (1 : Int32)) σ38) fun σ39 =>
  σ39) fun K36 =>
  if (f_RO_get (wtg k0 2) x1 σ) = (σ k0 7) then
  lt ((f_RO_get (wtg k0 1) x1 σ) / (2 : Int32)) fun v40 =>
  lt ((f_RO_get (wtg k0 2) x1 σ) / (2 : Int32)) fun v41 =>
  K36 v40 v41
  else
  K36 (f_RO_get (wtg k0 1) x1 σ) (f_RO_get (wtg k0 2) x1 σ)
set_option maxHeartbeats 4000000 in
set_option maxRecDepth 100000 in
theorem w_MD_learn {F : Fx} (C : Ctx F prog_6_method_10_code 5 "LineFrames$Model" none 1 22) {k0 : Nat} (h0k : Is k0 5) (x1 : Int32) (x2 : Int32) (σ : Mem) : J F 5 cvM (f_MD_learn k0 x1 x2 σ) σ 0 [(0, .ref (fad F k0)), (1, .int x1), (2, .int x2)] [] := by
  unfold f_MD_learn
  refine j_aload_n C d_MD_learn_0 0 rfl ?_
  refine j_getR C h0k fl_MD_14 rfl d_MD_learn_1 ?_
  refine j_iload_n C d_MD_learn_4 1 rfl ?_
  refine j_callVi C mv_MD_57 [.int x1] [] (tg_5_1 _ h0k) (c_RO_get (tg_5_1 _ h0k) x1 σ) rfl rfl (by decide) (Nat.le_of_ble_eq_true rfl) d_MD_learn_5 ?_
  refine j_istore_n (lv9 := [(0, .ref (fad F k0)), (1, .int x1), (2, .int x2), (3, .int (f_RO_get (wtg k0 1) x1 σ))]) C d_MD_learn_8 rfl rfl (by decide) ?_
  refine j_aload_n C d_MD_learn_9 0 rfl ?_
  refine j_getR C h0k fl_MD_20 rfl d_MD_learn_10 ?_
  refine j_iload_n C d_MD_learn_13 1 rfl ?_
  refine j_callVi C mv_MD_57 [.int x1] [] (tg_5_2 _ h0k) (c_RO_get (tg_5_2 _ h0k) x1 σ) rfl rfl (by decide) (Nat.le_of_ble_eq_true rfl) d_MD_learn_14 ?_
  refine j_istore (lv9 := [(0, .ref (fad F k0)), (1, .int x1), (2, .int x2), (3, .int (f_RO_get (wtg k0 1) x1 σ)), (4, .int (f_RO_get (wtg k0 2) x1 σ))]) C d_MD_learn_17 rfl rfl (by decide) ?_
  refine j_iload C d_MD_learn_19 4 rfl ?_
  refine j_aload_n C d_MD_learn_21 0 rfl ?_
  refine j_getI C h0k fl_MD_36 rfl d_MD_learn_22 ?_
  refine j_join2 38 (fun y34 y35 => [(0, .ref (fad F k0)), (1, .int x1), (2, .int x2), (3, .int y34), (4, .int y35)]) (fun _ _ => []) (fun y34 y35 => ?_) (fun K36 H37 => ?_)
  · refine j_aload_n C d_MD_learn_38 0 rfl ?_
    refine j_getR C h0k fl_MD_14 rfl d_MD_learn_39 ?_
    refine j_iload_n C d_MD_learn_42 1 rfl ?_
    refine j_iload_n C d_MD_learn_43 3 rfl ?_
    refine j_iload_n C d_MD_learn_44 2 rfl ?_
    refine j_abs C mm_MD_89 ⟨by decide, Nat.le_of_ble_eq_true rfl⟩ d_MD_learn_45 ?_
    refine j_iadd C d_MD_learn_48 ?_
    refine j_callVv C mv_MD_82 [.int x1, .int (y34 + (iabs x2))] [] (tg_5_1 _ h0k) (c_RO_set (tg_5_1 _ h0k) x1 (y34 + (iabs x2)) σ) rfl rfl (by decide) (Nat.le_of_ble_eq_true rfl) d_MD_learn_49 ?_
    refine j_genM (fun σ38 => ?_)
    refine j_aload_n C d_MD_learn_52 0 rfl ?_
    refine j_getR C h0k fl_MD_20 rfl d_MD_learn_53 ?_
    refine j_iload_n C d_MD_learn_56 1 rfl ?_
    refine j_iload C d_MD_learn_57 4 rfl ?_
    refine j_iconst (v := (1 : Int32)) C d_MD_learn_59 (by decide) ?_
    refine j_iadd C d_MD_learn_60 ?_
    refine j_callVv C mv_MD_82 [.int x1, .int (y35 + (1 : Int32))] [] (tg_5_2 _ h0k) (c_RO_set (tg_5_2 _ h0k) x1 (y35 + (1 : Int32)) σ38) rfl rfl (by decide) (Nat.le_of_ble_eq_true rfl) d_MD_learn_61 ?_
    refine j_genM (fun σ39 => ?_)
    exact j_vret C (fun ρ h => leaf_eq h) d_MD_learn_64
  · refine j_icmp_ne (tgt := 38) C d_MD_learn_25 (by decide) (fun c33 => ?_) (fun c33 => ?_)
    · exact H37 (f_RO_get (wtg k0 1) x1 σ) (f_RO_get (wtg k0 2) x1 σ)
    · refine j_iload_n C d_MD_learn_28 3 rfl ?_
      refine j_iconst (v := (2 : Int32)) C d_MD_learn_29 (by decide) ?_
      refine j_idiv C d_MD_learn_30 (by decide) ?_
      refine j_nm (fun v40 v40_e => ?_)
      refine j_istore_n (lv9 := [(0, .ref (fad F k0)), (1, .int x1), (2, .int x2), (3, .int v40), (4, .int (f_RO_get (wtg k0 2) x1 σ))]) C d_MD_learn_31 rfl rfl (by decide) ?_
      refine j_iload C d_MD_learn_32 4 rfl ?_
      refine j_iconst (v := (2 : Int32)) C d_MD_learn_34 (by decide) ?_
      refine j_idiv C d_MD_learn_35 (by decide) ?_
      refine j_nm (fun v41 v41_e => ?_)
      refine j_istore (lv9 := [(0, .ref (fad F k0)), (1, .int x1), (2, .int x2), (3, .int v40), (4, .int v41)]) C d_MD_learn_36 rfl rfl (by decide) ?_
      exact H37 v40 v41
theorem c_MD_learn {l : Launch} {D : va_G} {G : GC} {ad : Nat → Nat} {k0 : Nat} (h0k : Is k0 5) (x1 : Int32) (x2 : Int32) (σ : Mem) : Ctr l D G ad ⟨"LineFrames$Model", "learn", "(II)V"⟩ prog_6_method_10_code 5 none 1 22 [.ref (ad k0), .int x1, .int x2] σ (.inl none, (f_MD_learn k0 x1 x2 σ)) := ctr_J (cv := cvM) (E := f_MD_learn k0 x1 x2 σ) (by decide +kernel) (Nat.le_of_ble_eq_true rfl) rfl (fun F h C => by subst h; exact w_MD_learn C h0k x1 x2 σ)
end
