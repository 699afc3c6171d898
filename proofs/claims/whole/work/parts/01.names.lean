-- ===== PART A: goes FIRST, ahead of the names: the tables' words, and 'selects' of the private methods out of them =====
/-- a private method of a class that the tables say can be made, by its rows of tables_1 -/
def lw_okq (q : MethodName × Nat) : Prop := (q.1.cls ≠ "java/lang/invoke/MethodHandle" ∧ q.1.cls ≠ "java/lang/invoke/VarHandle") ∧ Cond.instantiable q.1.cls q.2 ∈ tables_1 ∧ Cond.privateMethod q.1 ∈ tables_1 ∧ Cond.instanceMethod q.1 ∈ tables_1
theorem lw_p0 : lw_okq (⟨"ShingledDisk", "feedNumber", "(I)V"⟩, 16) := ⟨⟨by decide +kernel, by decide +kernel⟩, List.mem_of_getElem? (i := 24) (by decide +kernel), List.mem_of_getElem? (i := 337) (by decide +kernel), List.mem_of_getElem? (i := 338) (by decide +kernel)⟩
theorem lw_p1 : lw_okq (⟨"ShingledDisk", "refuse", "(I)I"⟩, 16) := ⟨⟨by decide +kernel, by decide +kernel⟩, List.mem_of_getElem? (i := 24) (by decide +kernel), List.mem_of_getElem? (i := 345) (by decide +kernel), List.mem_of_getElem? (i := 346) (by decide +kernel)⟩
theorem lw_p2 : lw_okq (⟨"ShingledDisk$Parser", "moveOn", "()V"⟩, 10) := ⟨⟨by decide +kernel, by decide +kernel⟩, List.mem_of_getElem? (i := 135) (by decide +kernel), List.mem_of_getElem? (i := 364) (by decide +kernel), List.mem_of_getElem? (i := 365) (by decide +kernel)⟩
theorem lw_p3 : lw_okq (⟨"ShingledDisk$Parser", "behindRun", "(III)I"⟩, 10) := ⟨⟨by decide +kernel, by decide +kernel⟩, List.mem_of_getElem? (i := 135) (by decide +kernel), List.mem_of_getElem? (i := 368) (by decide +kernel), List.mem_of_getElem? (i := 369) (by decide +kernel)⟩
theorem lw_p4 : lw_okq (⟨"ShingledDisk$Parser", "byteAt", "(I)I"⟩, 10) := ⟨⟨by decide +kernel, by decide +kernel⟩, List.mem_of_getElem? (i := 135) (by decide +kernel), List.mem_of_getElem? (i := 372) (by decide +kernel), List.mem_of_getElem? (i := 373) (by decide +kernel)⟩
theorem lw_p5 : lw_okq (⟨"ShingledDisk$Parser", "takeLine", "()Z"⟩, 10) := ⟨⟨by decide +kernel, by decide +kernel⟩, List.mem_of_getElem? (i := 135) (by decide +kernel), List.mem_of_getElem? (i := 376) (by decide +kernel), List.mem_of_getElem? (i := 377) (by decide +kernel)⟩
theorem lw_p6 : lw_okq (⟨"ShingledDisk$Parser", "isWord", "(Ljava/lang/String;)Z"⟩, 10) := ⟨⟨by decide +kernel, by decide +kernel⟩, List.mem_of_getElem? (i := 135) (by decide +kernel), List.mem_of_getElem? (i := 381) (by decide +kernel), List.mem_of_getElem? (i := 382) (by decide +kernel)⟩
theorem lw_p7 : lw_okq (⟨"ShingledDisk$Parser", "takeDisk", "()Z"⟩, 10) := ⟨⟨by decide +kernel, by decide +kernel⟩, List.mem_of_getElem? (i := 135) (by decide +kernel), List.mem_of_getElem? (i := 433) (by decide +kernel), List.mem_of_getElem? (i := 434) (by decide +kernel)⟩
theorem lw_p8 : lw_okq (⟨"ShingledDisk$Parser", "stopAt", "(II)Z"⟩, 10) := ⟨⟨by decide +kernel, by decide +kernel⟩, List.mem_of_getElem? (i := 135) (by decide +kernel), List.mem_of_getElem? (i := 437) (by decide +kernel), List.mem_of_getElem? (i := 438) (by decide +kernel)⟩
theorem lw_p9 : lw_okq (⟨"ShingledDisk$Parser", "takeWord", "(Ljava/lang/String;)Z"⟩, 10) := ⟨⟨by decide +kernel, by decide +kernel⟩, List.mem_of_getElem? (i := 135) (by decide +kernel), List.mem_of_getElem? (i := 442) (by decide +kernel), List.mem_of_getElem? (i := 443) (by decide +kernel)⟩
theorem lw_p10 : lw_okq (⟨"ShingledDisk$Parser", "takeWhole", "(II)Z"⟩, 10) := ⟨⟨by decide +kernel, by decide +kernel⟩, List.mem_of_getElem? (i := 135) (by decide +kernel), List.mem_of_getElem? (i := 446) (by decide +kernel), List.mem_of_getElem? (i := 447) (by decide +kernel)⟩
theorem lw_p11 : lw_okq (⟨"ShingledDisk$Parser", "takeBand", "()Z"⟩, 10) := ⟨⟨by decide +kernel, by decide +kernel⟩, List.mem_of_getElem? (i := 135) (by decide +kernel), List.mem_of_getElem? (i := 454) (by decide +kernel), List.mem_of_getElem? (i := 455) (by decide +kernel)⟩
theorem lw_p12 : lw_okq (⟨"ShingledDisk$Parser", "takeFirstWord", "(Z)Z"⟩, 10) := ⟨⟨by decide +kernel, by decide +kernel⟩, List.mem_of_getElem? (i := 135) (by decide +kernel), List.mem_of_getElem? (i := 458) (by decide +kernel), List.mem_of_getElem? (i := 459) (by decide +kernel)⟩
theorem lw_p13 : lw_okq (⟨"ShingledDisk$Parser", "takePair", "(LShingledDisk$Pairs;IZ)Z"⟩, 10) := ⟨⟨by decide +kernel, by decide +kernel⟩, List.mem_of_getElem? (i := 135) (by decide +kernel), List.mem_of_getElem? (i := 467) (by decide +kernel), List.mem_of_getElem? (i := 468) (by decide +kernel)⟩
theorem lw_p14 : lw_okq (⟨"ShingledDisk$Parser", "takeSemicolon", "()Z"⟩, 10) := ⟨⟨by decide +kernel, by decide +kernel⟩, List.mem_of_getElem? (i := 135) (by decide +kernel), List.mem_of_getElem? (i := 487) (by decide +kernel), List.mem_of_getElem? (i := 488) (by decide +kernel)⟩
theorem lw_p15 : lw_okq (⟨"ShingledDisk", "beginAnew", "()V"⟩, 16) := ⟨⟨by decide +kernel, by decide +kernel⟩, List.mem_of_getElem? (i := 24) (by decide +kernel), List.mem_of_getElem? (i := 491) (by decide +kernel), List.mem_of_getElem? (i := 492) (by decide +kernel)⟩
def lw_privs_1 : List (MethodName × Nat) := [(⟨"ShingledDisk", "feedNumber", "(I)V"⟩, 16), (⟨"ShingledDisk", "refuse", "(I)I"⟩, 16), (⟨"ShingledDisk$Parser", "moveOn", "()V"⟩, 10), (⟨"ShingledDisk$Parser", "behindRun", "(III)I"⟩, 10), (⟨"ShingledDisk$Parser", "byteAt", "(I)I"⟩, 10), (⟨"ShingledDisk$Parser", "takeLine", "()Z"⟩, 10), (⟨"ShingledDisk$Parser", "isWord", "(Ljava/lang/String;)Z"⟩, 10), (⟨"ShingledDisk$Parser", "takeDisk", "()Z"⟩, 10), (⟨"ShingledDisk$Parser", "stopAt", "(II)Z"⟩, 10), (⟨"ShingledDisk$Parser", "takeWord", "(Ljava/lang/String;)Z"⟩, 10), (⟨"ShingledDisk$Parser", "takeWhole", "(II)Z"⟩, 10), (⟨"ShingledDisk$Parser", "takeBand", "()Z"⟩, 10), (⟨"ShingledDisk$Parser", "takeFirstWord", "(Z)Z"⟩, 10), (⟨"ShingledDisk$Parser", "takePair", "(LShingledDisk$Pairs;IZ)Z"⟩, 10), (⟨"ShingledDisk$Parser", "takeSemicolon", "()Z"⟩, 10), (⟨"ShingledDisk", "beginAnew", "()V"⟩, 16)]
theorem lw_r1 : ∀ q ∈ lw_privs_1, lw_okq q := List.forall_mem_cons.mpr ⟨lw_p0, List.forall_mem_cons.mpr ⟨lw_p1, List.forall_mem_cons.mpr ⟨lw_p2, List.forall_mem_cons.mpr ⟨lw_p3, List.forall_mem_cons.mpr ⟨lw_p4, List.forall_mem_cons.mpr ⟨lw_p5, List.forall_mem_cons.mpr ⟨lw_p6, List.forall_mem_cons.mpr ⟨lw_p7, List.forall_mem_cons.mpr ⟨lw_p8, List.forall_mem_cons.mpr ⟨lw_p9, List.forall_mem_cons.mpr ⟨lw_p10, List.forall_mem_cons.mpr ⟨lw_p11, List.forall_mem_cons.mpr ⟨lw_p12, List.forall_mem_cons.mpr ⟨lw_p13, List.forall_mem_cons.mpr ⟨lw_p14, List.forall_mem_cons.mpr ⟨lw_p15, fun _ h => absurd h List.not_mem_nil⟩⟩⟩⟩⟩⟩⟩⟩⟩⟩⟩⟩⟩⟩⟩⟩
theorem lw_p16 : lw_okq (⟨"ShingledDisk$State", "emptyJournal", "()V"⟩, 11) := ⟨⟨by decide +kernel, by decide +kernel⟩, List.mem_of_getElem? (i := 189) (by decide +kernel), List.mem_of_getElem? (i := 510) (by decide +kernel), List.mem_of_getElem? (i := 511) (by decide +kernel)⟩
theorem lw_p17 : lw_okq (⟨"ShingledDisk", "runOn", "(LShingledDisk$Shape;I)V"⟩, 16) := ⟨⟨by decide +kernel, by decide +kernel⟩, List.mem_of_getElem? (i := 24) (by decide +kernel), List.mem_of_getElem? (i := 518) (by decide +kernel), List.mem_of_getElem? (i := 519) (by decide +kernel)⟩
theorem lw_p18 : lw_okq (⟨"ShingledDisk$State", "writeFromJournal", "(LShingledDisk$Shape;I)V"⟩, 11) := ⟨⟨by decide +kernel, by decide +kernel⟩, List.mem_of_getElem? (i := 189) (by decide +kernel), List.mem_of_getElem? (i := 573) (by decide +kernel), List.mem_of_getElem? (i := 574) (by decide +kernel)⟩
theorem lw_p19 : lw_okq (⟨"ShingledDisk", "firstReadOtherwise", "()I"⟩, 16) := ⟨⟨by decide +kernel, by decide +kernel⟩, List.mem_of_getElem? (i := 24) (by decide +kernel), List.mem_of_getElem? (i := 581) (by decide +kernel), List.mem_of_getElem? (i := 582) (by decide +kernel)⟩
theorem lw_p20 : lw_okq (⟨"ShingledDisk", "accept", "(I)I"⟩, 16) := ⟨⟨by decide +kernel, by decide +kernel⟩, List.mem_of_getElem? (i := 24) (by decide +kernel), List.mem_of_getElem? (i := 591) (by decide +kernel), List.mem_of_getElem? (i := 592) (by decide +kernel)⟩
theorem lw_p21 : lw_okq (⟨"ShingledDisk", "hasTrack", "(I)Z"⟩, 16) := ⟨⟨by decide +kernel, by decide +kernel⟩, List.mem_of_getElem? (i := 24) (by decide +kernel), List.mem_of_getElem? (i := 607) (by decide +kernel), List.mem_of_getElem? (i := 608) (by decide +kernel)⟩
theorem lw_p22 : lw_okq (⟨"ShingledDisk", "hasBand", "(I)Z"⟩, 16) := ⟨⟨by decide +kernel, by decide +kernel⟩, List.mem_of_getElem? (i := 24) (by decide +kernel), List.mem_of_getElem? (i := 625) (by decide +kernel), List.mem_of_getElem? (i := 626) (by decide +kernel)⟩
theorem lw_p23 : lw_okq (⟨"ShingledDisk", "hasDisk", "()Z"⟩, 16) := ⟨⟨by decide +kernel, by decide +kernel⟩, List.mem_of_getElem? (i := 24) (by decide +kernel), List.mem_of_getElem? (i := 648) (by decide +kernel), List.mem_of_getElem? (i := 649) (by decide +kernel)⟩
theorem lw_p24 : lw_okq (⟨"ShingledDisk$State", "beginsExtent", "(I)Z"⟩, 11) := ⟨⟨by decide +kernel, by decide +kernel⟩, List.mem_of_getElem? (i := 189) (by decide +kernel), List.mem_of_getElem? (i := 681) (by decide +kernel), List.mem_of_getElem? (i := 682) (by decide +kernel)⟩
theorem lw_p25 : lw_okq (⟨"ShingledDisk", "whyNoCut", "(II)I"⟩, 16) := ⟨⟨by decide +kernel, by decide +kernel⟩, List.mem_of_getElem? (i := 24) (by decide +kernel), List.mem_of_getElem? (i := 732) (by decide +kernel), List.mem_of_getElem? (i := 733) (by decide +kernel)⟩
theorem lw_p26 : lw_okq (⟨"ShingledDisk", "tryCut", "(II)V"⟩, 16) := ⟨⟨by decide +kernel, by decide +kernel⟩, List.mem_of_getElem? (i := 24) (by decide +kernel), List.mem_of_getElem? (i := 736) (by decide +kernel), List.mem_of_getElem? (i := 737) (by decide +kernel)⟩
theorem lw_p27 : lw_okq (⟨"ShingledDisk", "trackWritesBySize", "(I)I"⟩, 16) := ⟨⟨by decide +kernel, by decide +kernel⟩, List.mem_of_getElem? (i := 24) (by decide +kernel), List.mem_of_getElem? (i := 788) (by decide +kernel), List.mem_of_getElem? (i := 789) (by decide +kernel)⟩
theorem lw_p28 : lw_okq (⟨"ShingledDisk$Shape", "takeRules", "(LShingledDisk$Shape;)V"⟩, 8) := ⟨⟨by decide +kernel, by decide +kernel⟩, List.mem_of_getElem? (i := 38) (by decide +kernel), List.mem_of_getElem? (i := 796) (by decide +kernel), List.mem_of_getElem? (i := 797) (by decide +kernel)⟩
theorem lw_p29 : lw_okq (⟨"ShingledDisk", "cleaningsByLog", "(I)I"⟩, 16) := ⟨⟨by decide +kernel, by decide +kernel⟩, List.mem_of_getElem? (i := 24) (by decide +kernel), List.mem_of_getElem? (i := 811) (by decide +kernel), List.mem_of_getElem? (i := 812) (by decide +kernel)⟩
theorem lw_p30 : lw_okq (⟨"ShingledDisk", "tryDraws", "(II)V"⟩, 16) := ⟨⟨by decide +kernel, by decide +kernel⟩, List.mem_of_getElem? (i := 24) (by decide +kernel), List.mem_of_getElem? (i := 878) (by decide +kernel), List.mem_of_getElem? (i := 879) (by decide +kernel)⟩
theorem lw_p31 : lw_okq (⟨"ShingledDisk$Draws", "draw", "(I)I"⟩, 1) := ⟨⟨by decide +kernel, by decide +kernel⟩, List.mem_of_getElem? (i := 240) (by decide +kernel), List.mem_of_getElem? (i := 886) (by decide +kernel), List.mem_of_getElem? (i := 887) (by decide +kernel)⟩
def lw_privs_2 : List (MethodName × Nat) := [(⟨"ShingledDisk$State", "emptyJournal", "()V"⟩, 11), (⟨"ShingledDisk", "runOn", "(LShingledDisk$Shape;I)V"⟩, 16), (⟨"ShingledDisk$State", "writeFromJournal", "(LShingledDisk$Shape;I)V"⟩, 11), (⟨"ShingledDisk", "firstReadOtherwise", "()I"⟩, 16), (⟨"ShingledDisk", "accept", "(I)I"⟩, 16), (⟨"ShingledDisk", "hasTrack", "(I)Z"⟩, 16), (⟨"ShingledDisk", "hasBand", "(I)Z"⟩, 16), (⟨"ShingledDisk", "hasDisk", "()Z"⟩, 16), (⟨"ShingledDisk$State", "beginsExtent", "(I)Z"⟩, 11), (⟨"ShingledDisk", "whyNoCut", "(II)I"⟩, 16), (⟨"ShingledDisk", "tryCut", "(II)V"⟩, 16), (⟨"ShingledDisk", "trackWritesBySize", "(I)I"⟩, 16), (⟨"ShingledDisk$Shape", "takeRules", "(LShingledDisk$Shape;)V"⟩, 8), (⟨"ShingledDisk", "cleaningsByLog", "(I)I"⟩, 16), (⟨"ShingledDisk", "tryDraws", "(II)V"⟩, 16), (⟨"ShingledDisk$Draws", "draw", "(I)I"⟩, 1)]
theorem lw_r2 : ∀ q ∈ lw_privs_2, lw_okq q := List.forall_mem_cons.mpr ⟨lw_p16, List.forall_mem_cons.mpr ⟨lw_p17, List.forall_mem_cons.mpr ⟨lw_p18, List.forall_mem_cons.mpr ⟨lw_p19, List.forall_mem_cons.mpr ⟨lw_p20, List.forall_mem_cons.mpr ⟨lw_p21, List.forall_mem_cons.mpr ⟨lw_p22, List.forall_mem_cons.mpr ⟨lw_p23, List.forall_mem_cons.mpr ⟨lw_p24, List.forall_mem_cons.mpr ⟨lw_p25, List.forall_mem_cons.mpr ⟨lw_p26, List.forall_mem_cons.mpr ⟨lw_p27, List.forall_mem_cons.mpr ⟨lw_p28, List.forall_mem_cons.mpr ⟨lw_p29, List.forall_mem_cons.mpr ⟨lw_p30, List.forall_mem_cons.mpr ⟨lw_p31, fun _ h => absurd h List.not_mem_nil⟩⟩⟩⟩⟩⟩⟩⟩⟩⟩⟩⟩⟩⟩⟩⟩
theorem lw_p32 : lw_okq (⟨"ShingledDisk$Shelf", "copyAt", "(I)LShingledDisk$State;"⟩, 1) := ⟨⟨by decide +kernel, by decide +kernel⟩, List.mem_of_getElem? (i := 257) (by decide +kernel), List.mem_of_getElem? (i := 912) (by decide +kernel), List.mem_of_getElem? (i := 913) (by decide +kernel)⟩
theorem lw_p33 : lw_okq (⟨"java/lang/Throwable", "fillInStackTrace", "(I)Ljava/lang/Throwable;"⟩, 6) := ⟨⟨by decide +kernel, by decide +kernel⟩, List.mem_of_getElem? (i := 1005) (by decide +kernel), List.mem_of_getElem? (i := 1003) (by decide +kernel), List.mem_of_getElem? (i := 1004) (by decide +kernel)⟩
theorem lw_p34 : lw_okq (⟨"ShingledDiskModel", "refused", "(I)I"⟩, 36) := ⟨⟨by decide +kernel, by decide +kernel⟩, List.mem_of_getElem? (i := 1030) (by decide +kernel), List.mem_of_getElem? (i := 1157) (by decide +kernel), List.mem_of_getElem? (i := 1158) (by decide +kernel)⟩
theorem lw_p35 : lw_okq (⟨"ShingledDiskModel", "goesOn", "()V"⟩, 36) := ⟨⟨by decide +kernel, by decide +kernel⟩, List.mem_of_getElem? (i := 1030) (by decide +kernel), List.mem_of_getElem? (i := 1232) (by decide +kernel), List.mem_of_getElem? (i := 1233) (by decide +kernel)⟩
theorem lw_p36 : lw_okq (⟨"ShingledDiskModel", "byteAt", "(I)I"⟩, 36) := ⟨⟨by decide +kernel, by decide +kernel⟩, List.mem_of_getElem? (i := 1030) (by decide +kernel), List.mem_of_getElem? (i := 1236) (by decide +kernel), List.mem_of_getElem? (i := 1237) (by decide +kernel)⟩
theorem lw_p37 : lw_okq (⟨"ShingledDiskModel", "readAll", "()V"⟩, 36) := ⟨⟨by decide +kernel, by decide +kernel⟩, List.mem_of_getElem? (i := 1030) (by decide +kernel), List.mem_of_getElem? (i := 1247) (by decide +kernel), List.mem_of_getElem? (i := 1248) (by decide +kernel)⟩
theorem lw_p38 : lw_okq (⟨"ShingledDiskModel", "readLine", "()V"⟩, 36) := ⟨⟨by decide +kernel, by decide +kernel⟩, List.mem_of_getElem? (i := 1030) (by decide +kernel), List.mem_of_getElem? (i := 1251) (by decide +kernel), List.mem_of_getElem? (i := 1252) (by decide +kernel)⟩
theorem lw_p39 : lw_okq (⟨"ShingledDiskModel", "isWord", "(Ljava/lang/String;)Z"⟩, 36) := ⟨⟨by decide +kernel, by decide +kernel⟩, List.mem_of_getElem? (i := 1030) (by decide +kernel), List.mem_of_getElem? (i := 1256) (by decide +kernel), List.mem_of_getElem? (i := 1257) (by decide +kernel)⟩
theorem lw_p40 : lw_okq (⟨"ShingledDiskModel", "readDisk", "()V"⟩, 36) := ⟨⟨by decide +kernel, by decide +kernel⟩, List.mem_of_getElem? (i := 1030) (by decide +kernel), List.mem_of_getElem? (i := 1265) (by decide +kernel), List.mem_of_getElem? (i := 1266) (by decide +kernel)⟩
theorem lw_p41 : lw_okq (⟨"ShingledDiskModel", "flaw", "(I)V"⟩, 36) := ⟨⟨by decide +kernel, by decide +kernel⟩, List.mem_of_getElem? (i := 1030) (by decide +kernel), List.mem_of_getElem? (i := 1269) (by decide +kernel), List.mem_of_getElem? (i := 1270) (by decide +kernel)⟩
theorem lw_p42 : lw_okq (⟨"ShingledDiskModel", "readPart", "(Ljava/lang/String;II)I"⟩, 36) := ⟨⟨by decide +kernel, by decide +kernel⟩, List.mem_of_getElem? (i := 1030) (by decide +kernel), List.mem_of_getElem? (i := 1274) (by decide +kernel), List.mem_of_getElem? (i := 1275) (by decide +kernel)⟩
theorem lw_p43 : lw_okq (⟨"ShingledDiskModel", "needs", "(Ljava/lang/String;)V"⟩, 36) := ⟨⟨by decide +kernel, by decide +kernel⟩, List.mem_of_getElem? (i := 1030) (by decide +kernel), List.mem_of_getElem? (i := 1278) (by decide +kernel), List.mem_of_getElem? (i := 1279) (by decide +kernel)⟩
theorem lw_p44 : lw_okq (⟨"ShingledDiskModel", "readWhole", "(II)I"⟩, 36) := ⟨⟨by decide +kernel, by decide +kernel⟩, List.mem_of_getElem? (i := 1030) (by decide +kernel), List.mem_of_getElem? (i := 1282) (by decide +kernel), List.mem_of_getElem? (i := 1283) (by decide +kernel)⟩
theorem lw_p45 : lw_okq (⟨"ShingledDiskModel", "wholeAt", "(II)I"⟩, 36) := ⟨⟨by decide +kernel, by decide +kernel⟩, List.mem_of_getElem? (i := 1030) (by decide +kernel), List.mem_of_getElem? (i := 1286) (by decide +kernel), List.mem_of_getElem? (i := 1287) (by decide +kernel)⟩
theorem lw_p46 : lw_okq (⟨"ShingledDiskModel", "readBand", "()V"⟩, 36) := ⟨⟨by decide +kernel, by decide +kernel⟩, List.mem_of_getElem? (i := 1030) (by decide +kernel), List.mem_of_getElem? (i := 1297) (by decide +kernel), List.mem_of_getElem? (i := 1298) (by decide +kernel)⟩
theorem lw_p47 : lw_okq (⟨"ShingledDiskModel", "lineBegins", "(II)V"⟩, 36) := ⟨⟨by decide +kernel, by decide +kernel⟩, List.mem_of_getElem? (i := 1030) (by decide +kernel), List.mem_of_getElem? (i := 1301) (by decide +kernel), List.mem_of_getElem? (i := 1302) (by decide +kernel)⟩
def lw_privs_3 : List (MethodName × Nat) := [(⟨"ShingledDisk$Shelf", "copyAt", "(I)LShingledDisk$State;"⟩, 1), (⟨"java/lang/Throwable", "fillInStackTrace", "(I)Ljava/lang/Throwable;"⟩, 6), (⟨"ShingledDiskModel", "refused", "(I)I"⟩, 36), (⟨"ShingledDiskModel", "goesOn", "()V"⟩, 36), (⟨"ShingledDiskModel", "byteAt", "(I)I"⟩, 36), (⟨"ShingledDiskModel", "readAll", "()V"⟩, 36), (⟨"ShingledDiskModel", "readLine", "()V"⟩, 36), (⟨"ShingledDiskModel", "isWord", "(Ljava/lang/String;)Z"⟩, 36), (⟨"ShingledDiskModel", "readDisk", "()V"⟩, 36), (⟨"ShingledDiskModel", "flaw", "(I)V"⟩, 36), (⟨"ShingledDiskModel", "readPart", "(Ljava/lang/String;II)I"⟩, 36), (⟨"ShingledDiskModel", "needs", "(Ljava/lang/String;)V"⟩, 36), (⟨"ShingledDiskModel", "readWhole", "(II)I"⟩, 36), (⟨"ShingledDiskModel", "wholeAt", "(II)I"⟩, 36), (⟨"ShingledDiskModel", "readBand", "()V"⟩, 36), (⟨"ShingledDiskModel", "lineBegins", "(II)V"⟩, 36)]
theorem lw_r3 : ∀ q ∈ lw_privs_3, lw_okq q := List.forall_mem_cons.mpr ⟨lw_p32, List.forall_mem_cons.mpr ⟨lw_p33, List.forall_mem_cons.mpr ⟨lw_p34, List.forall_mem_cons.mpr ⟨lw_p35, List.forall_mem_cons.mpr ⟨lw_p36, List.forall_mem_cons.mpr ⟨lw_p37, List.forall_mem_cons.mpr ⟨lw_p38, List.forall_mem_cons.mpr ⟨lw_p39, List.forall_mem_cons.mpr ⟨lw_p40, List.forall_mem_cons.mpr ⟨lw_p41, List.forall_mem_cons.mpr ⟨lw_p42, List.forall_mem_cons.mpr ⟨lw_p43, List.forall_mem_cons.mpr ⟨lw_p44, List.forall_mem_cons.mpr ⟨lw_p45, List.forall_mem_cons.mpr ⟨lw_p46, List.forall_mem_cons.mpr ⟨lw_p47, fun _ h => absurd h List.not_mem_nil⟩⟩⟩⟩⟩⟩⟩⟩⟩⟩⟩⟩⟩⟩⟩⟩
theorem lw_p48 : lw_okq (⟨"ShingledDiskModel", "readHas", "()V"⟩, 36) := ⟨⟨by decide +kernel, by decide +kernel⟩, List.mem_of_getElem? (i := 1030) (by decide +kernel), List.mem_of_getElem? (i := 1306) (by decide +kernel), List.mem_of_getElem? (i := 1307) (by decide +kernel)⟩
theorem lw_p49 : lw_okq (⟨"ShingledDiskModel", "toldAt", "(I)I"⟩, 36) := ⟨⟨by decide +kernel, by decide +kernel⟩, List.mem_of_getElem? (i := 1030) (by decide +kernel), List.mem_of_getElem? (i := 1310) (by decide +kernel), List.mem_of_getElem? (i := 1311) (by decide +kernel)⟩
theorem lw_p50 : lw_okq (⟨"ShingledDiskModel", "readWrite", "()V"⟩, 36) := ⟨⟨by decide +kernel, by decide +kernel⟩, List.mem_of_getElem? (i := 1030) (by decide +kernel), List.mem_of_getElem? (i := 1315) (by decide +kernel), List.mem_of_getElem? (i := 1316) (by decide +kernel)⟩
theorem lw_p51 : lw_okq (⟨"ShingledDiskModel", "readUnsure", "()V"⟩, 36) := ⟨⟨by decide +kernel, by decide +kernel⟩, List.mem_of_getElem? (i := 1030) (by decide +kernel), List.mem_of_getElem? (i := 1320) (by decide +kernel), List.mem_of_getElem? (i := 1321) (by decide +kernel)⟩
theorem lw_p52 : lw_okq (⟨"ShingledDiskModel", "readRead", "()V"⟩, 36) := ⟨⟨by decide +kernel, by decide +kernel⟩, List.mem_of_getElem? (i := 1030) (by decide +kernel), List.mem_of_getElem? (i := 1328) (by decide +kernel), List.mem_of_getElem? (i := 1329) (by decide +kernel)⟩
theorem lw_p53 : lw_okq (⟨"ShingledDiskModel", "eatsSemicolon", "()Z"⟩, 36) := ⟨⟨by decide +kernel, by decide +kernel⟩, List.mem_of_getElem? (i := 1030) (by decide +kernel), List.mem_of_getElem? (i := 1332) (by decide +kernel), List.mem_of_getElem? (i := 1333) (by decide +kernel)⟩
theorem lw_p54 : lw_okq (⟨"ShingledDiskModel", "asTold", "()V"⟩, 36) := ⟨⟨by decide +kernel, by decide +kernel⟩, List.mem_of_getElem? (i := 1030) (by decide +kernel), List.mem_of_getElem? (i := 1336) (by decide +kernel), List.mem_of_getElem? (i := 1337) (by decide +kernel)⟩
theorem lw_p55 : lw_okq (⟨"ShingledDiskModel", "bandsAsTold", "()V"⟩, 36) := ⟨⟨by decide +kernel, by decide +kernel⟩, List.mem_of_getElem? (i := 1030) (by decide +kernel), List.mem_of_getElem? (i := 1340) (by decide +kernel), List.mem_of_getElem? (i := 1341) (by decide +kernel)⟩
theorem lw_p56 : lw_okq (⟨"ShingledDiskModel", "remains", "()V"⟩, 36) := ⟨⟨by decide +kernel, by decide +kernel⟩, List.mem_of_getElem? (i := 1030) (by decide +kernel), List.mem_of_getElem? (i := 1344) (by decide +kernel), List.mem_of_getElem? (i := 1345) (by decide +kernel)⟩
theorem lw_p57 : lw_okq (⟨"ShingledDiskModel", "good", "(I)I"⟩, 36) := ⟨⟨by decide +kernel, by decide +kernel⟩, List.mem_of_getElem? (i := 1030) (by decide +kernel), List.mem_of_getElem? (i := 1348) (by decide +kernel), List.mem_of_getElem? (i := 1349) (by decide +kernel)⟩
theorem lw_p58 : lw_okq (⟨"ShingledDiskModel", "isTrack", "(I)Z"⟩, 36) := ⟨⟨by decide +kernel, by decide +kernel⟩, List.mem_of_getElem? (i := 1030) (by decide +kernel), List.mem_of_getElem? (i := 1364) (by decide +kernel), List.mem_of_getElem? (i := 1365) (by decide +kernel)⟩
theorem lw_p59 : lw_okq (⟨"ShingledDiskModel", "isDown", "()Z"⟩, 36) := ⟨⟨by decide +kernel, by decide +kernel⟩, List.mem_of_getElem? (i := 1030) (by decide +kernel), List.mem_of_getElem? (i := 1368) (by decide +kernel), List.mem_of_getElem? (i := 1369) (by decide +kernel)⟩
theorem lw_p60 : lw_okq (⟨"ShingledDiskModel", "works", "()V"⟩, 36) := ⟨⟨by decide +kernel, by decide +kernel⟩, List.mem_of_getElem? (i := 1030) (by decide +kernel), List.mem_of_getElem? (i := 1372) (by decide +kernel), List.mem_of_getElem? (i := 1373) (by decide +kernel)⟩
theorem lw_p61 : lw_okq (⟨"ShingledDiskModel", "readOf", "(I)I"⟩, 36) := ⟨⟨by decide +kernel, by decide +kernel⟩, List.mem_of_getElem? (i := 1030) (by decide +kernel), List.mem_of_getElem? (i := 1376) (by decide +kernel), List.mem_of_getElem? (i := 1377) (by decide +kernel)⟩
theorem lw_p62 : lw_okq (⟨"ShingledDiskModel", "liveOf", "(I)I"⟩, 36) := ⟨⟨by decide +kernel, by decide +kernel⟩, List.mem_of_getElem? (i := 1030) (by decide +kernel), List.mem_of_getElem? (i := 1380) (by decide +kernel), List.mem_of_getElem? (i := 1381) (by decide +kernel)⟩
theorem lw_p63 : lw_okq (⟨"ShingledDiskModel", "bandAt", "(I)I"⟩, 36) := ⟨⟨by decide +kernel, by decide +kernel⟩, List.mem_of_getElem? (i := 1030) (by decide +kernel), List.mem_of_getElem? (i := 1392) (by decide +kernel), List.mem_of_getElem? (i := 1393) (by decide +kernel)⟩
def lw_privs_4 : List (MethodName × Nat) := [(⟨"ShingledDiskModel", "readHas", "()V"⟩, 36), (⟨"ShingledDiskModel", "toldAt", "(I)I"⟩, 36), (⟨"ShingledDiskModel", "readWrite", "()V"⟩, 36), (⟨"ShingledDiskModel", "readUnsure", "()V"⟩, 36), (⟨"ShingledDiskModel", "readRead", "()V"⟩, 36), (⟨"ShingledDiskModel", "eatsSemicolon", "()Z"⟩, 36), (⟨"ShingledDiskModel", "asTold", "()V"⟩, 36), (⟨"ShingledDiskModel", "bandsAsTold", "()V"⟩, 36), (⟨"ShingledDiskModel", "remains", "()V"⟩, 36), (⟨"ShingledDiskModel", "good", "(I)I"⟩, 36), (⟨"ShingledDiskModel", "isTrack", "(I)Z"⟩, 36), (⟨"ShingledDiskModel", "isDown", "()Z"⟩, 36), (⟨"ShingledDiskModel", "works", "()V"⟩, 36), (⟨"ShingledDiskModel", "readOf", "(I)I"⟩, 36), (⟨"ShingledDiskModel", "liveOf", "(I)I"⟩, 36), (⟨"ShingledDiskModel", "bandAt", "(I)I"⟩, 36)]
theorem lw_r4 : ∀ q ∈ lw_privs_4, lw_okq q := List.forall_mem_cons.mpr ⟨lw_p48, List.forall_mem_cons.mpr ⟨lw_p49, List.forall_mem_cons.mpr ⟨lw_p50, List.forall_mem_cons.mpr ⟨lw_p51, List.forall_mem_cons.mpr ⟨lw_p52, List.forall_mem_cons.mpr ⟨lw_p53, List.forall_mem_cons.mpr ⟨lw_p54, List.forall_mem_cons.mpr ⟨lw_p55, List.forall_mem_cons.mpr ⟨lw_p56, List.forall_mem_cons.mpr ⟨lw_p57, List.forall_mem_cons.mpr ⟨lw_p58, List.forall_mem_cons.mpr ⟨lw_p59, List.forall_mem_cons.mpr ⟨lw_p60, List.forall_mem_cons.mpr ⟨lw_p61, List.forall_mem_cons.mpr ⟨lw_p62, List.forall_mem_cons.mpr ⟨lw_p63, fun _ h => absurd h List.not_mem_nil⟩⟩⟩⟩⟩⟩⟩⟩⟩⟩⟩⟩⟩⟩⟩⟩
theorem lw_p64 : lw_okq (⟨"ShingledDiskModel", "isBand", "(I)Z"⟩, 36) := ⟨⟨by decide +kernel, by decide +kernel⟩, List.mem_of_getElem? (i := 1030) (by decide +kernel), List.mem_of_getElem? (i := 1400) (by decide +kernel), List.mem_of_getElem? (i := 1401) (by decide +kernel)⟩
theorem lw_p65 : lw_okq (⟨"ShingledDiskModel", "entriesOf", "(IZ)I"⟩, 36) := ⟨⟨by decide +kernel, by decide +kernel⟩, List.mem_of_getElem? (i := 1030) (by decide +kernel), List.mem_of_getElem? (i := 1404) (by decide +kernel), List.mem_of_getElem? (i := 1405) (by decide +kernel)⟩
theorem lw_p66 : lw_okq (⟨"ShingledDiskModel", "isIn", "(II)Z"⟩, 36) := ⟨⟨by decide +kernel, by decide +kernel⟩, List.mem_of_getElem? (i := 1030) (by decide +kernel), List.mem_of_getElem? (i := 1408) (by decide +kernel), List.mem_of_getElem? (i := 1409) (by decide +kernel)⟩
theorem lw_p67 : lw_okq (⟨"ShingledDiskModel", "isLive", "(I)Z"⟩, 36) := ⟨⟨by decide +kernel, by decide +kernel⟩, List.mem_of_getElem? (i := 1030) (by decide +kernel), List.mem_of_getElem? (i := 1412) (by decide +kernel), List.mem_of_getElem? (i := 1413) (by decide +kernel)⟩
theorem lw_p68 : lw_okq (⟨"ShingledDiskModel", "damagedIn", "(I)I"⟩, 36) := ⟨⟨by decide +kernel, by decide +kernel⟩, List.mem_of_getElem? (i := 1030) (by decide +kernel), List.mem_of_getElem? (i := 1416) (by decide +kernel), List.mem_of_getElem? (i := 1417) (by decide +kernel)⟩
theorem lw_p69 : lw_okq (⟨"ShingledDiskModel", "isEntry", "(I)Z"⟩, 36) := ⟨⟨by decide +kernel, by decide +kernel⟩, List.mem_of_getElem? (i := 1030) (by decide +kernel), List.mem_of_getElem? (i := 1440) (by decide +kernel), List.mem_of_getElem? (i := 1441) (by decide +kernel)⟩
theorem lw_p70 : lw_okq (⟨"ShingledDiskModel", "liveMany", "()I"⟩, 36) := ⟨⟨by decide +kernel, by decide +kernel⟩, List.mem_of_getElem? (i := 1030) (by decide +kernel), List.mem_of_getElem? (i := 1448) (by decide +kernel), List.mem_of_getElem? (i := 1449) (by decide +kernel)⟩
theorem lw_p71 : lw_okq (⟨"ShingledDiskModel", "extentsNow", "()V"⟩, 36) := ⟨⟨by decide +kernel, by decide +kernel⟩, List.mem_of_getElem? (i := 1030) (by decide +kernel), List.mem_of_getElem? (i := 1456) (by decide +kernel), List.mem_of_getElem? (i := 1457) (by decide +kernel)⟩
theorem lw_p72 : lw_okq (⟨"ShingledDiskModel", "goesWith", "(I)Z"⟩, 36) := ⟨⟨by decide +kernel, by decide +kernel⟩, List.mem_of_getElem? (i := 1030) (by decide +kernel), List.mem_of_getElem? (i := 1460) (by decide +kernel), List.mem_of_getElem? (i := 1461) (by decide +kernel)⟩
theorem lw_p73 : lw_okq (⟨"ShingledDiskModel", "nextBand", "()I"⟩, 36) := ⟨⟨by decide +kernel, by decide +kernel⟩, List.mem_of_getElem? (i := 1030) (by decide +kernel), List.mem_of_getElem? (i := 1476) (by decide +kernel), List.mem_of_getElem? (i := 1477) (by decide +kernel)⟩
theorem lw_p74 : lw_okq (⟨"ShingledDiskModel", "fullest", "()I"⟩, 36) := ⟨⟨by decide +kernel, by decide +kernel⟩, List.mem_of_getElem? (i := 1030) (by decide +kernel), List.mem_of_getElem? (i := 1480) (by decide +kernel), List.mem_of_getElem? (i := 1481) (by decide +kernel)⟩
theorem lw_p75 : lw_okq (⟨"ShingledDiskModel", "taken", "(I)V"⟩, 36) := ⟨⟨by decide +kernel, by decide +kernel⟩, List.mem_of_getElem? (i := 1030) (by decide +kernel), List.mem_of_getElem? (i := 1488) (by decide +kernel), List.mem_of_getElem? (i := 1489) (by decide +kernel)⟩
theorem lw_p76 : lw_okq (⟨"ShingledDiskModel", "enters", "(III)V"⟩, 36) := ⟨⟨by decide +kernel, by decide +kernel⟩, List.mem_of_getElem? (i := 1030) (by decide +kernel), List.mem_of_getElem? (i := 1492) (by decide +kernel), List.mem_of_getElem? (i := 1493) (by decide +kernel)⟩
theorem lw_p77 : lw_okq (⟨"ShingledDiskModel", "stepsOf", "(I)I"⟩, 36) := ⟨⟨by decide +kernel, by decide +kernel⟩, List.mem_of_getElem? (i := 1030) (by decide +kernel), List.mem_of_getElem? (i := 1500) (by decide +kernel), List.mem_of_getElem? (i := 1501) (by decide +kernel)⟩
theorem lw_p78 : lw_okq (⟨"ShingledDiskModel", "refusesCut", "(II)I"⟩, 36) := ⟨⟨by decide +kernel, by decide +kernel⟩, List.mem_of_getElem? (i := 1030) (by decide +kernel), List.mem_of_getElem? (i := 1512) (by decide +kernel), List.mem_of_getElem? (i := 1513) (by decide +kernel)⟩
theorem lw_p79 : lw_okq (⟨"ShingledDiskModel", "cuts", "(II)I"⟩, 36) := ⟨⟨by decide +kernel, by decide +kernel⟩, List.mem_of_getElem? (i := 1030) (by decide +kernel), List.mem_of_getElem? (i := 1516) (by decide +kernel), List.mem_of_getElem? (i := 1517) (by decide +kernel)⟩
def lw_privs_5 : List (MethodName × Nat) := [(⟨"ShingledDiskModel", "isBand", "(I)Z"⟩, 36), (⟨"ShingledDiskModel", "entriesOf", "(IZ)I"⟩, 36), (⟨"ShingledDiskModel", "isIn", "(II)Z"⟩, 36), (⟨"ShingledDiskModel", "isLive", "(I)Z"⟩, 36), (⟨"ShingledDiskModel", "damagedIn", "(I)I"⟩, 36), (⟨"ShingledDiskModel", "isEntry", "(I)Z"⟩, 36), (⟨"ShingledDiskModel", "liveMany", "()I"⟩, 36), (⟨"ShingledDiskModel", "extentsNow", "()V"⟩, 36), (⟨"ShingledDiskModel", "goesWith", "(I)Z"⟩, 36), (⟨"ShingledDiskModel", "nextBand", "()I"⟩, 36), (⟨"ShingledDiskModel", "fullest", "()I"⟩, 36), (⟨"ShingledDiskModel", "taken", "(I)V"⟩, 36), (⟨"ShingledDiskModel", "enters", "(III)V"⟩, 36), (⟨"ShingledDiskModel", "stepsOf", "(I)I"⟩, 36), (⟨"ShingledDiskModel", "refusesCut", "(II)I"⟩, 36), (⟨"ShingledDiskModel", "cuts", "(II)I"⟩, 36)]
theorem lw_r5 : ∀ q ∈ lw_privs_5, lw_okq q := List.forall_mem_cons.mpr ⟨lw_p64, List.forall_mem_cons.mpr ⟨lw_p65, List.forall_mem_cons.mpr ⟨lw_p66, List.forall_mem_cons.mpr ⟨lw_p67, List.forall_mem_cons.mpr ⟨lw_p68, List.forall_mem_cons.mpr ⟨lw_p69, List.forall_mem_cons.mpr ⟨lw_p70, List.forall_mem_cons.mpr ⟨lw_p71, List.forall_mem_cons.mpr ⟨lw_p72, List.forall_mem_cons.mpr ⟨lw_p73, List.forall_mem_cons.mpr ⟨lw_p74, List.forall_mem_cons.mpr ⟨lw_p75, List.forall_mem_cons.mpr ⟨lw_p76, List.forall_mem_cons.mpr ⟨lw_p77, List.forall_mem_cons.mpr ⟨lw_p78, List.forall_mem_cons.mpr ⟨lw_p79, fun _ h => absurd h List.not_mem_nil⟩⟩⟩⟩⟩⟩⟩⟩⟩⟩⟩⟩⟩⟩⟩⟩
theorem lw_p80 : lw_okq (⟨"ShingledDiskModel", "stepsTo", "(II)V"⟩, 36) := ⟨⟨by decide +kernel, by decide +kernel⟩, List.mem_of_getElem? (i := 1030) (by decide +kernel), List.mem_of_getElem? (i := 1520) (by decide +kernel), List.mem_of_getElem? (i := 1521) (by decide +kernel)⟩
theorem lw_p81 : lw_okq (⟨"ShingledDiskModel", "step", "(II)V"⟩, 36) := ⟨⟨by decide +kernel, by decide +kernel⟩, List.mem_of_getElem? (i := 1030) (by decide +kernel), List.mem_of_getElem? (i := 1524) (by decide +kernel), List.mem_of_getElem? (i := 1525) (by decide +kernel)⟩
theorem lw_p82 : lw_okq (⟨"ShingledDiskModel", "journaled", "(II)V"⟩, 36) := ⟨⟨by decide +kernel, by decide +kernel⟩, List.mem_of_getElem? (i := 1030) (by decide +kernel), List.mem_of_getElem? (i := 1528) (by decide +kernel), List.mem_of_getElem? (i := 1529) (by decide +kernel)⟩
theorem lw_p83 : lw_okq (⟨"ShingledDiskModel", "laid", "(III)V"⟩, 36) := ⟨⟨by decide +kernel, by decide +kernel⟩, List.mem_of_getElem? (i := 1030) (by decide +kernel), List.mem_of_getElem? (i := 1532) (by decide +kernel), List.mem_of_getElem? (i := 1533) (by decide +kernel)⟩
theorem lw_p84 : lw_okq (⟨"ShingledDiskModel", "ended", "(I)V"⟩, 36) := ⟨⟨by decide +kernel, by decide +kernel⟩, List.mem_of_getElem? (i := 1030) (by decide +kernel), List.mem_of_getElem? (i := 1536) (by decide +kernel), List.mem_of_getElem? (i := 1537) (by decide +kernel)⟩
theorem lw_p85 : lw_okq (⟨"ShingledDiskModel", "emptied", "()V"⟩, 36) := ⟨⟨by decide +kernel, by decide +kernel⟩, List.mem_of_getElem? (i := 1030) (by decide +kernel), List.mem_of_getElem? (i := 1540) (by decide +kernel), List.mem_of_getElem? (i := 1541) (by decide +kernel)⟩
theorem lw_p86 : lw_okq (⟨"ShingledDiskModel", "damagedNow", "()I"⟩, 36) := ⟨⟨by decide +kernel, by decide +kernel⟩, List.mem_of_getElem? (i := 1030) (by decide +kernel), List.mem_of_getElem? (i := 1544) (by decide +kernel), List.mem_of_getElem? (i := 1545) (by decide +kernel)⟩
theorem lw_p87 : lw_okq (⟨"ShingledDiskModel", "recovers", "()I"⟩, 36) := ⟨⟨by decide +kernel, by decide +kernel⟩, List.mem_of_getElem? (i := 1030) (by decide +kernel), List.mem_of_getElem? (i := 1556) (by decide +kernel), List.mem_of_getElem? (i := 1557) (by decide +kernel)⟩
theorem lw_p88 : lw_okq (⟨"ShingledDiskModel", "runs", "()V"⟩, 36) := ⟨⟨by decide +kernel, by decide +kernel⟩, List.mem_of_getElem? (i := 1030) (by decide +kernel), List.mem_of_getElem? (i := 1568) (by decide +kernel), List.mem_of_getElem? (i := 1569) (by decide +kernel)⟩
theorem lw_p89 : lw_okq (⟨"ShingledDiskModel", "goes", "(I)V"⟩, 36) := ⟨⟨by decide +kernel, by decide +kernel⟩, List.mem_of_getElem? (i := 1030) (by decide +kernel), List.mem_of_getElem? (i := 1572) (by decide +kernel), List.mem_of_getElem? (i := 1573) (by decide +kernel)⟩
theorem lw_p90 : lw_okq (⟨"ShingledDiskModel", "whatOf", "(II)I"⟩, 36) := ⟨⟨by decide +kernel, by decide +kernel⟩, List.mem_of_getElem? (i := 1030) (by decide +kernel), List.mem_of_getElem? (i := 1576) (by decide +kernel), List.mem_of_getElem? (i := 1577) (by decide +kernel)⟩
theorem lw_p91 : lw_okq (⟨"ShingledDiskModel", "writes", "(II)I"⟩, 36) := ⟨⟨by decide +kernel, by decide +kernel⟩, List.mem_of_getElem? (i := 1030) (by decide +kernel), List.mem_of_getElem? (i := 1583) (by decide +kernel), List.mem_of_getElem? (i := 1584) (by decide +kernel)⟩
theorem lw_p92 : lw_okq (⟨"ShingledDiskModel", "cleans", "(I)I"⟩, 36) := ⟨⟨by decide +kernel, by decide +kernel⟩, List.mem_of_getElem? (i := 1030) (by decide +kernel), List.mem_of_getElem? (i := 1587) (by decide +kernel), List.mem_of_getElem? (i := 1588) (by decide +kernel)⟩
theorem lw_p93 : lw_okq (⟨"ShingledDiskModel", "fraction", "(JJZ)J"⟩, 36) := ⟨⟨by decide +kernel, by decide +kernel⟩, List.mem_of_getElem? (i := 1030) (by decide +kernel), List.mem_of_getElem? (i := 1603) (by decide +kernel), List.mem_of_getElem? (i := 1604) (by decide +kernel)⟩
theorem lw_p94 : lw_okq (⟨"ShingledDiskModel", "writesBySize", "(I)I"⟩, 36) := ⟨⟨by decide +kernel, by decide +kernel⟩, List.mem_of_getElem? (i := 1030) (by decide +kernel), List.mem_of_getElem? (i := 1614) (by decide +kernel), List.mem_of_getElem? (i := 1615) (by decide +kernel)⟩
theorem lw_p95 : lw_okq (⟨"ShingledDiskModel", "bandsBySize", "(I)V"⟩, 36) := ⟨⟨by decide +kernel, by decide +kernel⟩, List.mem_of_getElem? (i := 1030) (by decide +kernel), List.mem_of_getElem? (i := 1618) (by decide +kernel), List.mem_of_getElem? (i := 1619) (by decide +kernel)⟩
def lw_privs_6 : List (MethodName × Nat) := [(⟨"ShingledDiskModel", "stepsTo", "(II)V"⟩, 36), (⟨"ShingledDiskModel", "step", "(II)V"⟩, 36), (⟨"ShingledDiskModel", "journaled", "(II)V"⟩, 36), (⟨"ShingledDiskModel", "laid", "(III)V"⟩, 36), (⟨"ShingledDiskModel", "ended", "(I)V"⟩, 36), (⟨"ShingledDiskModel", "emptied", "()V"⟩, 36), (⟨"ShingledDiskModel", "damagedNow", "()I"⟩, 36), (⟨"ShingledDiskModel", "recovers", "()I"⟩, 36), (⟨"ShingledDiskModel", "runs", "()V"⟩, 36), (⟨"ShingledDiskModel", "goes", "(I)V"⟩, 36), (⟨"ShingledDiskModel", "whatOf", "(II)I"⟩, 36), (⟨"ShingledDiskModel", "writes", "(II)I"⟩, 36), (⟨"ShingledDiskModel", "cleans", "(I)I"⟩, 36), (⟨"ShingledDiskModel", "fraction", "(JJZ)J"⟩, 36), (⟨"ShingledDiskModel", "writesBySize", "(I)I"⟩, 36), (⟨"ShingledDiskModel", "bandsBySize", "(I)V"⟩, 36)]
theorem lw_r6 : ∀ q ∈ lw_privs_6, lw_okq q := List.forall_mem_cons.mpr ⟨lw_p80, List.forall_mem_cons.mpr ⟨lw_p81, List.forall_mem_cons.mpr ⟨lw_p82, List.forall_mem_cons.mpr ⟨lw_p83, List.forall_mem_cons.mpr ⟨lw_p84, List.forall_mem_cons.mpr ⟨lw_p85, List.forall_mem_cons.mpr ⟨lw_p86, List.forall_mem_cons.mpr ⟨lw_p87, List.forall_mem_cons.mpr ⟨lw_p88, List.forall_mem_cons.mpr ⟨lw_p89, List.forall_mem_cons.mpr ⟨lw_p90, List.forall_mem_cons.mpr ⟨lw_p91, List.forall_mem_cons.mpr ⟨lw_p92, List.forall_mem_cons.mpr ⟨lw_p93, List.forall_mem_cons.mpr ⟨lw_p94, List.forall_mem_cons.mpr ⟨lw_p95, fun _ h => absurd h List.not_mem_nil⟩⟩⟩⟩⟩⟩⟩⟩⟩⟩⟩⟩⟩⟩⟩⟩
theorem lw_p96 : lw_okq (⟨"ShingledDiskModel", "cleansByLog", "(I)I"⟩, 36) := ⟨⟨by decide +kernel, by decide +kernel⟩, List.mem_of_getElem? (i := 1030) (by decide +kernel), List.mem_of_getElem? (i := 1630) (by decide +kernel), List.mem_of_getElem? (i := 1631) (by decide +kernel)⟩
theorem lw_p97 : lw_okq (⟨"ShingledDiskModel", "fitting", "(I)I"⟩, 36) := ⟨⟨by decide +kernel, by decide +kernel⟩, List.mem_of_getElem? (i := 1030) (by decide +kernel), List.mem_of_getElem? (i := 1642) (by decide +kernel), List.mem_of_getElem? (i := 1643) (by decide +kernel)⟩
theorem lw_p98 : lw_okq (⟨"ShingledDiskModel", "wrongRead", "(I)I"⟩, 36) := ⟨⟨by decide +kernel, by decide +kernel⟩, List.mem_of_getElem? (i := 1030) (by decide +kernel), List.mem_of_getElem? (i := 1646) (by decide +kernel), List.mem_of_getElem? (i := 1647) (by decide +kernel)⟩
theorem lw_p99 : lw_okq (⟨"ShingledDiskModel", "asks", "()I"⟩, 36) := ⟨⟨by decide +kernel, by decide +kernel⟩, List.mem_of_getElem? (i := 1030) (by decide +kernel), List.mem_of_getElem? (i := 1666) (by decide +kernel), List.mem_of_getElem? (i := 1667) (by decide +kernel)⟩
theorem lw_p100 : lw_okq (⟨"ShingledDiskModel", "refusesDraw", "(ZII)I"⟩, 36) := ⟨⟨by decide +kernel, by decide +kernel⟩, List.mem_of_getElem? (i := 1030) (by decide +kernel), List.mem_of_getElem? (i := 1682) (by decide +kernel), List.mem_of_getElem? (i := 1683) (by decide +kernel)⟩
theorem lw_p101 : lw_okq (⟨"ShingledDiskModel", "drawnTurns", "(II)V"⟩, 36) := ⟨⟨by decide +kernel, by decide +kernel⟩, List.mem_of_getElem? (i := 1030) (by decide +kernel), List.mem_of_getElem? (i := 1687) (by decide +kernel), List.mem_of_getElem? (i := 1688) (by decide +kernel)⟩
theorem lw_p102 : lw_okq (⟨"ShingledDiskModel", "draws", "(I)I"⟩, 36) := ⟨⟨by decide +kernel, by decide +kernel⟩, List.mem_of_getElem? (i := 1030) (by decide +kernel), List.mem_of_getElem? (i := 1691) (by decide +kernel), List.mem_of_getElem? (i := 1692) (by decide +kernel)⟩
theorem lw_p103 : lw_okq (⟨"ShingledDiskModel", "drawnCut", "()V"⟩, 36) := ⟨⟨by decide +kernel, by decide +kernel⟩, List.mem_of_getElem? (i := 1030) (by decide +kernel), List.mem_of_getElem? (i := 1698) (by decide +kernel), List.mem_of_getElem? (i := 1699) (by decide +kernel)⟩
theorem lw_p104 : lw_okq (⟨"ShingledDiskModel", "remembers", "()V"⟩, 36) := ⟨⟨by decide +kernel, by decide +kernel⟩, List.mem_of_getElem? (i := 1030) (by decide +kernel), List.mem_of_getElem? (i := 1710) (by decide +kernel), List.mem_of_getElem? (i := 1711) (by decide +kernel)⟩
theorem lw_p105 : lw_okq (⟨"ShingledDiskModel", "done", "(I)I"⟩, 36) := ⟨⟨by decide +kernel, by decide +kernel⟩, List.mem_of_getElem? (i := 1030) (by decide +kernel), List.mem_of_getElem? (i := 1714) (by decide +kernel), List.mem_of_getElem? (i := 1715) (by decide +kernel)⟩
theorem lw_p106 : lw_okq (⟨"ShingledDiskModel", "denied", "(I)Z"⟩, 36) := ⟨⟨by decide +kernel, by decide +kernel⟩, List.mem_of_getElem? (i := 1030) (by decide +kernel), List.mem_of_getElem? (i := 1734) (by decide +kernel), List.mem_of_getElem? (i := 1735) (by decide +kernel)⟩
theorem lw_p107 : lw_okq (⟨"ShingledDiskModel", "granted", "()Z"⟩, 36) := ⟨⟨by decide +kernel, by decide +kernel⟩, List.mem_of_getElem? (i := 1030) (by decide +kernel), List.mem_of_getElem? (i := 1738) (by decide +kernel), List.mem_of_getElem? (i := 1739) (by decide +kernel)⟩
def lw_privs_7 : List (MethodName × Nat) := [(⟨"ShingledDiskModel", "cleansByLog", "(I)I"⟩, 36), (⟨"ShingledDiskModel", "fitting", "(I)I"⟩, 36), (⟨"ShingledDiskModel", "wrongRead", "(I)I"⟩, 36), (⟨"ShingledDiskModel", "asks", "()I"⟩, 36), (⟨"ShingledDiskModel", "refusesDraw", "(ZII)I"⟩, 36), (⟨"ShingledDiskModel", "drawnTurns", "(II)V"⟩, 36), (⟨"ShingledDiskModel", "draws", "(I)I"⟩, 36), (⟨"ShingledDiskModel", "drawnCut", "()V"⟩, 36), (⟨"ShingledDiskModel", "remembers", "()V"⟩, 36), (⟨"ShingledDiskModel", "done", "(I)I"⟩, 36), (⟨"ShingledDiskModel", "denied", "(I)Z"⟩, 36), (⟨"ShingledDiskModel", "granted", "()Z"⟩, 36)]
theorem lw_r7 : ∀ q ∈ lw_privs_7, lw_okq q := List.forall_mem_cons.mpr ⟨lw_p96, List.forall_mem_cons.mpr ⟨lw_p97, List.forall_mem_cons.mpr ⟨lw_p98, List.forall_mem_cons.mpr ⟨lw_p99, List.forall_mem_cons.mpr ⟨lw_p100, List.forall_mem_cons.mpr ⟨lw_p101, List.forall_mem_cons.mpr ⟨lw_p102, List.forall_mem_cons.mpr ⟨lw_p103, List.forall_mem_cons.mpr ⟨lw_p104, List.forall_mem_cons.mpr ⟨lw_p105, List.forall_mem_cons.mpr ⟨lw_p106, List.forall_mem_cons.mpr ⟨lw_p107, fun _ h => absurd h List.not_mem_nil⟩⟩⟩⟩⟩⟩⟩⟩⟩⟩⟩⟩
def lw_privs : List (MethodName × Nat) := lw_privs_1 ++ (lw_privs_2 ++ (lw_privs_3 ++ (lw_privs_4 ++ (lw_privs_5 ++ (lw_privs_6 ++ (lw_privs_7))))))
def lw_tbl : List Cond := k2_sels lw_privs ++ tables_1
theorem lw_privs_ok : ∀ q ∈ lw_privs, lw_okq q := by
  show ∀ q ∈ lw_privs_1 ++ (lw_privs_2 ++ (lw_privs_3 ++ (lw_privs_4 ++ (lw_privs_5 ++ (lw_privs_6 ++ (lw_privs_7)))))), lw_okq q
  exact List.forall_mem_append.mpr ⟨lw_r1, List.forall_mem_append.mpr ⟨lw_r2, List.forall_mem_append.mpr ⟨lw_r3, List.forall_mem_append.mpr ⟨lw_r4, List.forall_mem_append.mpr ⟨lw_r5, List.forall_mem_append.mpr ⟨lw_r6, lw_r7⟩⟩⟩⟩⟩⟩
def RX0 : String := "ShingledDisk$Draws"
def TX0 : u_T := fun k => match k with
  | _ => ("ShingledDisk$Draws", "seed", "I", false)
def tyX0 : Nat → FieldType := fun k => match k with
  | _ => .int
theorem nmX0 : ∀ a, a < 1 → ∀ b, b < 1 → a ≠ b → (TX0 a).2.1 ≠ (TX0 b).2.1 := by decide +kernel
theorem tyX0_ok : ∀ k, k < 1 → parseFieldDescriptor (TX0 k).2.2.1 = some (tyX0 k) := by decide +kernel
abbrev cX0_init : ByteArray := prog_2_method_1_code
def yX0_init : MethodName := ⟨RX0, "<init>", "()V"⟩
abbrev cX0_draw : ByteArray := prog_2_method_2_code
def yX0_draw : MethodName := ⟨RX0, "draw", "(I)I"⟩
abbrev cX0_takeTurn : ByteArray := prog_2_method_3_code
def yX0_takeTurn : MethodName := ⟨RX0, "takeTurn", "(LShingledDisk$Shape;LShingledDisk$State;)V"⟩
def RX1 : String := "ShingledDisk$FitSets"
def TX1 : u_T := fun k => match k with
  | 0 => ("ShingledDisk$FitSets", "sets", "[I", true)
  | _ => ("ShingledDisk$FitSets", "count", "I", false)
def tyX1 : Nat → FieldType := fun k => match k with
  | 0 => .array .int
  | _ => .int
theorem nmX1 : ∀ a, a < 2 → ∀ b, b < 2 → a ≠ b → (TX1 a).2.1 ≠ (TX1 b).2.1 := by decide +kernel
theorem tyX1_ok : ∀ k, k < 2 → parseFieldDescriptor (TX1 k).2.2.1 = some (tyX1 k) := by decide +kernel
abbrev cX1_init : ByteArray := prog_3_method_1_code
def yX1_init : MethodName := ⟨RX1, "<init>", "()V"⟩
abbrev cX1_addSet : ByteArray := prog_3_method_2_code
def yX1_addSet : MethodName := ⟨RX1, "addSet", "(I)V"⟩
abbrev cX1_inSome : ByteArray := prog_3_method_3_code
def yX1_inSome : MethodName := ⟨RX1, "inSome", "()I"⟩
abbrev cX1_inAll : ByteArray := prog_3_method_4_code
def yX1_inAll : MethodName := ⟨RX1, "inAll", "()I"⟩
abbrev cX1_leftAtMost : ByteArray := prog_3_method_5_code
def yX1_leftAtMost : MethodName := ⟨RX1, "leftAtMost", "(I)I"⟩
abbrev cX1_bestToTell : ByteArray := prog_3_method_6_code
def yX1_bestToTell : MethodName := ⟨RX1, "bestToTell", "(I)I"⟩
def RX2 : String := "ShingledDisk$History"
def TX2 : u_T := fun k => match k with
  | 0 => ("ShingledDisk$History", "ring", "LShingledDisk$Shelf;", true)
  | 1 => ("ShingledDisk$History", "next", "I", false)
  | _ => ("ShingledDisk$History", "count", "I", false)
def tyX2 : Nat → FieldType := fun k => match k with
  | 0 => .object "ShingledDisk$Shelf"
  | 1 => .int
  | _ => .int
theorem nmX2 : ∀ a, a < 3 → ∀ b, b < 3 → a ≠ b → (TX2 a).2.1 ≠ (TX2 b).2.1 := by decide +kernel
theorem tyX2_ok : ∀ k, k < 3 → parseFieldDescriptor (TX2 k).2.2.1 = some (tyX2 k) := by decide +kernel
abbrev cX2_init : ByteArray := prog_4_method_1_code
def yX2_init : MethodName := ⟨RX2, "<init>", "()V"⟩
abbrev cX2_forget : ByteArray := prog_4_method_2_code
def yX2_forget : MethodName := ⟨RX2, "forget", "()V"⟩
abbrev cX2_keep : ByteArray := prog_4_method_3_code
def yX2_keep : MethodName := ⟨RX2, "keep", "(LShingledDisk$State;)V"⟩
abbrev cX2_takeBack : ByteArray := prog_4_method_4_code
def yX2_takeBack : MethodName := ⟨RX2, "takeBack", "(LShingledDisk$State;)V"⟩
def RX3 : String := "ShingledDisk$Pairs"
def TX3 : u_T := fun k => match k with
  | 0 => ("ShingledDisk$Pairs", "firsts", "[I", true)
  | 1 => ("ShingledDisk$Pairs", "seconds", "[I", true)
  | _ => ("ShingledDisk$Pairs", "count", "I", false)
def tyX3 : Nat → FieldType := fun k => match k with
  | 0 => .array .int
  | 1 => .array .int
  | _ => .int
theorem nmX3 : ∀ a, a < 3 → ∀ b, b < 3 → a ≠ b → (TX3 a).2.1 ≠ (TX3 b).2.1 := by decide +kernel
theorem tyX3_ok : ∀ k, k < 3 → parseFieldDescriptor (TX3 k).2.2.1 = some (tyX3 k) := by decide +kernel
abbrev cX3_init : ByteArray := prog_5_method_1_code
def yX3_init : MethodName := ⟨RX3, "<init>", "(I)V"⟩
abbrev cX3_hasRoom : ByteArray := prog_5_method_2_code
def yX3_hasRoom : MethodName := ⟨RX3, "hasRoom", "()Z"⟩
abbrev cX3_addPair : ByteArray := prog_5_method_3_code
def yX3_addPair : MethodName := ⟨RX3, "addPair", "(II)V"⟩
abbrev cX3_firstOf : ByteArray := prog_5_method_4_code
def yX3_firstOf : MethodName := ⟨RX3, "firstOf", "(I)I"⟩
abbrev cX3_secondOf : ByteArray := prog_5_method_5_code
def yX3_secondOf : MethodName := ⟨RX3, "secondOf", "(I)I"⟩
abbrev cX3_hasFirst : ByteArray := prog_5_method_6_code
def yX3_hasFirst : MethodName := ⟨RX3, "hasFirst", "(I)Z"⟩
def RX4 : String := "ShingledDisk$Parser"
def TX4 : u_T := fun k => match k with
  | 0 => ("ShingledDisk$Parser", "text", "[B", true)
  | 1 => ("ShingledDisk$Parser", "end", "I", false)
  | 2 => ("ShingledDisk$Parser", "into", "LShingledDisk$Told;", false)
  | 3 => ("ShingledDisk$Parser", "diskTold", "Z", false)
  | 4 => ("ShingledDisk$Parser", "kind", "I", false)
  | 5 => ("ShingledDisk$Parser", "start", "I", false)
  | 6 => ("ShingledDisk$Parser", "next", "I", false)
  | 7 => ("ShingledDisk$Parser", "taken", "I", false)
  | 8 => ("ShingledDisk$Parser", "foundFault", "I", false)
  | _ => ("ShingledDisk$Parser", "foundPlace", "I", false)
def tyX4 : Nat → FieldType := fun k => match k with
  | 0 => .array .byte
  | 1 => .int
  | 2 => .object "ShingledDisk$Told"
  | 3 => .boolean
  | 4 => .int
  | 5 => .int
  | 6 => .int
  | 7 => .int
  | 8 => .int
  | _ => .int
theorem nmX4 : ∀ a, a < 10 → ∀ b, b < 10 → a ≠ b → (TX4 a).2.1 ≠ (TX4 b).2.1 := by decide +kernel
theorem tyX4_ok : ∀ k, k < 10 → parseFieldDescriptor (TX4 k).2.2.1 = some (tyX4 k) := by decide +kernel
abbrev cX4_init : ByteArray := prog_6_method_1_code
def yX4_init : MethodName := ⟨RX4, "<init>", "([BLShingledDisk$Told;)V"⟩
abbrev cX4_tellAll : ByteArray := prog_6_method_2_code
def yX4_tellAll : MethodName := ⟨RX4, "tellAll", "(ILShingledDisk$Told;)V"⟩
abbrev cX4_stopAt : ByteArray := prog_6_method_3_code
def yX4_stopAt : MethodName := ⟨RX4, "stopAt", "(II)Z"⟩
abbrev cX4_takeLine : ByteArray := prog_6_method_4_code
def yX4_takeLine : MethodName := ⟨RX4, "takeLine", "()Z"⟩
abbrev cX4_takeSemicolon : ByteArray := prog_6_method_5_code
def yX4_takeSemicolon : MethodName := ⟨RX4, "takeSemicolon", "()Z"⟩
abbrev cX4_takeDisk : ByteArray := prog_6_method_6_code
def yX4_takeDisk : MethodName := ⟨RX4, "takeDisk", "()Z"⟩
abbrev cX4_takeBand : ByteArray := prog_6_method_7_code
def yX4_takeBand : MethodName := ⟨RX4, "takeBand", "()Z"⟩
abbrev cX4_takePair : ByteArray := prog_6_method_8_code
def yX4_takePair : MethodName := ⟨RX4, "takePair", "(LShingledDisk$Pairs;IZ)Z"⟩
abbrev cX4_takeFirstWord : ByteArray := prog_6_method_9_code
def yX4_takeFirstWord : MethodName := ⟨RX4, "takeFirstWord", "(Z)Z"⟩
abbrev cX4_takeWord : ByteArray := prog_6_method_10_code
def yX4_takeWord : MethodName := ⟨RX4, "takeWord", "(Ljava/lang/String;)Z"⟩
abbrev cX4_takeWhole : ByteArray := prog_6_method_11_code
def yX4_takeWhole : MethodName := ⟨RX4, "takeWhole", "(II)Z"⟩
abbrev cX4_isWord : ByteArray := prog_6_method_12_code
def yX4_isWord : MethodName := ⟨RX4, "isWord", "(Ljava/lang/String;)Z"⟩
abbrev cX4_moveOn : ByteArray := prog_6_method_13_code
def yX4_moveOn : MethodName := ⟨RX4, "moveOn", "()V"⟩
abbrev cX4_behindRun : ByteArray := prog_6_method_14_code
def yX4_behindRun : MethodName := ⟨RX4, "behindRun", "(III)I"⟩
abbrev cX4_byteAt : ByteArray := prog_6_method_15_code
def yX4_byteAt : MethodName := ⟨RX4, "byteAt", "(I)I"⟩
def RX5 : String := "ShingledDisk$Shape"
def TX5 : u_T := fun k => match k with
  | 0 => ("ShingledDisk$Shape", "firstTrack", "[I", true)
  | 1 => ("ShingledDisk$Shape", "trackCount", "[I", true)
  | 2 => ("ShingledDisk$Shape", "holdingBand", "[I", true)
  | 3 => ("ShingledDisk$Shape", "bands", "I", false)
  | 4 => ("ShingledDisk$Shape", "tracks", "I", false)
  | 5 => ("ShingledDisk$Shape", "overlap", "I", false)
  | 6 => ("ShingledDisk$Shape", "places", "I", false)
  | _ => ("ShingledDisk$Shape", "oldest", "Z", false)
def tyX5 : Nat → FieldType := fun k => match k with
  | 0 => .array .int
  | 1 => .array .int
  | 2 => .array .int
  | 3 => .int
  | 4 => .int
  | 5 => .int
  | 6 => .int
  | _ => .boolean
theorem nmX5 : ∀ a, a < 8 → ∀ b, b < 8 → a ≠ b → (TX5 a).2.1 ≠ (TX5 b).2.1 := by decide +kernel
theorem tyX5_ok : ∀ k, k < 8 → parseFieldDescriptor (TX5 k).2.2.1 = some (tyX5 k) := by decide +kernel
abbrev cX5_init : ByteArray := prog_7_method_1_code
def yX5_init : MethodName := ⟨RX5, "<init>", "()V"⟩
abbrev cX5_empty : ByteArray := prog_7_method_2_code
def yX5_empty : MethodName := ⟨RX5, "empty", "()V"⟩
abbrev cX5_addBand : ByteArray := prog_7_method_3_code
def yX5_addBand : MethodName := ⟨RX5, "addBand", "(I)V"⟩
abbrev cX5_firstOf : ByteArray := prog_7_method_4_code
def yX5_firstOf : MethodName := ⟨RX5, "firstOf", "(I)I"⟩
abbrev cX5_tracksOf : ByteArray := prog_7_method_5_code
def yX5_tracksOf : MethodName := ⟨RX5, "tracksOf", "(I)I"⟩
abbrev cX5_stepsOf : ByteArray := prog_7_method_6_code
def yX5_stepsOf : MethodName := ⟨RX5, "stepsOf", "(I)I"⟩
abbrev cX5_bandHolding : ByteArray := prog_7_method_7_code
def yX5_bandHolding : MethodName := ⟨RX5, "bandHolding", "(I)I"⟩
abbrev cX5_becomeBySize : ByteArray := prog_7_method_8_code
def yX5_becomeBySize : MethodName := ⟨RX5, "becomeBySize", "(LShingledDisk$Shape;I)V"⟩
abbrev cX5_becomeByLog : ByteArray := prog_7_method_9_code
def yX5_becomeByLog : MethodName := ⟨RX5, "becomeByLog", "(LShingledDisk$Shape;I)V"⟩
abbrev cX5_takeRules : ByteArray := prog_7_method_10_code
def yX5_takeRules : MethodName := ⟨RX5, "takeRules", "(LShingledDisk$Shape;)V"⟩
def RX6 : String := "ShingledDisk$Shelf"
def TX6 : u_T := fun k => match k with
  | _ => ("ShingledDisk$Shelf", "copies", "[LShingledDisk$State;", true)
def tyX6 : Nat → FieldType := fun k => match k with
  | _ => .array (.object "ShingledDisk$State")
theorem nmX6 : ∀ a, a < 1 → ∀ b, b < 1 → a ≠ b → (TX6 a).2.1 ≠ (TX6 b).2.1 := by decide +kernel
theorem tyX6_ok : ∀ k, k < 1 → parseFieldDescriptor (TX6 k).2.2.1 = some (tyX6 k) := by decide +kernel
abbrev cX6_init : ByteArray := prog_8_method_1_code
def yX6_init : MethodName := ⟨RX6, "<init>", "(I)V"⟩
abbrev cX6_copyAt : ByteArray := prog_8_method_2_code
def yX6_copyAt : MethodName := ⟨RX6, "copyAt", "(I)LShingledDisk$State;"⟩
abbrev cX6_layIn : ByteArray := prog_8_method_3_code
def yX6_layIn : MethodName := ⟨RX6, "layIn", "(ILShingledDisk$State;)V"⟩
abbrev cX6_takeOut : ByteArray := prog_8_method_4_code
def yX6_takeOut : MethodName := ⟨RX6, "takeOut", "(ILShingledDisk$State;)V"⟩
def RX7 : String := "ShingledDisk$State"
def TX7 : u_T := fun k => match k with
  | 0 => ("ShingledDisk$State", "onTrack", "[I", true)
  | 1 => ("ShingledDisk$State", "entryTrack", "[I", true)
  | 2 => ("ShingledDisk$State", "entryValue", "[I", true)
  | 3 => ("ShingledDisk$State", "inJournal", "[I", true)
  | 4 => ("ShingledDisk$State", "entryCount", "I", false)
  | 5 => ("ShingledDisk$State", "journalCount", "I", false)
  | 6 => ("ShingledDisk$State", "journalBand", "I", false)
  | 7 => ("ShingledDisk$State", "journalFull", "Z", false)
  | 8 => ("ShingledDisk$State", "isDown", "Z", false)
  | 9 => ("ShingledDisk$State", "trackWrites", "I", false)
  | _ => ("ShingledDisk$State", "cleanings", "I", false)
def tyX7 : Nat → FieldType := fun k => match k with
  | 0 => .array .int
  | 1 => .array .int
  | 2 => .array .int
  | 3 => .array .int
  | 4 => .int
  | 5 => .int
  | 6 => .int
  | 7 => .boolean
  | 8 => .boolean
  | 9 => .int
  | _ => .int
theorem nmX7 : ∀ a, a < 11 → ∀ b, b < 11 → a ≠ b → (TX7 a).2.1 ≠ (TX7 b).2.1 := by decide +kernel
theorem tyX7_ok : ∀ k, k < 11 → parseFieldDescriptor (TX7 k).2.2.1 = some (tyX7 k) := by decide +kernel
abbrev cX7_init : ByteArray := prog_9_method_1_code
def yX7_init : MethodName := ⟨RX7, "<init>", "()V"⟩
abbrev cX7_begin : ByteArray := prog_9_method_2_code
def yX7_begin : MethodName := ⟨RX7, "begin", "(LShingledDisk$Pairs;)V"⟩
abbrev cX7_copyFrom : ByteArray := prog_9_method_3_code
def yX7_copyFrom : MethodName := ⟨RX7, "copyFrom", "(LShingledDisk$State;)V"⟩
abbrev cX7_livePlaceOf : ByteArray := prog_9_method_4_code
def yX7_livePlaceOf : MethodName := ⟨RX7, "livePlaceOf", "(I)I"⟩
abbrev cX7_isLive : ByteArray := prog_9_method_5_code
def yX7_isLive : MethodName := ⟨RX7, "isLive", "(I)Z"⟩
abbrev cX7_valueOf : ByteArray := prog_9_method_6_code
def yX7_valueOf : MethodName := ⟨RX7, "valueOf", "(I)I"⟩
abbrev cX7_entriesOf : ByteArray := prog_9_method_7_code
def yX7_entriesOf : MethodName := ⟨RX7, "entriesOf", "(LShingledDisk$Shape;I)I"⟩
abbrev cX7_liveEntriesOf : ByteArray := prog_9_method_8_code
def yX7_liveEntriesOf : MethodName := ⟨RX7, "liveEntriesOf", "(LShingledDisk$Shape;I)I"⟩
abbrev cX7_damagedOf : ByteArray := prog_9_method_9_code
def yX7_damagedOf : MethodName := ⟨RX7, "damagedOf", "(LShingledDisk$Shape;I)I"⟩
abbrev cX7_damagedInAll : ByteArray := prog_9_method_10_code
def yX7_damagedInAll : MethodName := ⟨RX7, "damagedInAll", "(LShingledDisk$Shape;)I"⟩
abbrev cX7_beginsExtent : ByteArray := prog_9_method_11_code
def yX7_beginsExtent : MethodName := ⟨RX7, "beginsExtent", "(I)Z"⟩
abbrev cX7_extentsBegunBy : ByteArray := prog_9_method_12_code
def yX7_extentsBegunBy : MethodName := ⟨RX7, "extentsBegunBy", "(I)I"⟩
abbrev cX7_firstOfExtent : ByteArray := prog_9_method_13_code
def yX7_firstOfExtent : MethodName := ⟨RX7, "firstOfExtent", "(II)I"⟩
abbrev cX7_extentLength : ByteArray := prog_9_method_14_code
def yX7_extentLength : MethodName := ⟨RX7, "extentLength", "(II)I"⟩
abbrev cX7_nextBand : ByteArray := prog_9_method_15_code
def yX7_nextBand : MethodName := ⟨RX7, "nextBand", "(LShingledDisk$Shape;)I"⟩
abbrev cX7_addEntry : ByteArray := prog_9_method_16_code
def yX7_addEntry : MethodName := ⟨RX7, "addEntry", "(LShingledDisk$Shape;II)V"⟩
abbrev cX7_doSteps : ByteArray := prog_9_method_17_code
def yX7_doSteps : MethodName := ⟨RX7, "doSteps", "(LShingledDisk$Shape;II)V"⟩
abbrev cX7_writeFromJournal : ByteArray := prog_9_method_18_code
def yX7_writeFromJournal : MethodName := ⟨RX7, "writeFromJournal", "(LShingledDisk$Shape;I)V"⟩
abbrev cX7_dropEntriesOf : ByteArray := prog_9_method_19_code
def yX7_dropEntriesOf : MethodName := ⟨RX7, "dropEntriesOf", "(LShingledDisk$Shape;I)V"⟩
abbrev cX7_emptyJournal : ByteArray := prog_9_method_20_code
def yX7_emptyJournal : MethodName := ⟨RX7, "emptyJournal", "()V"⟩
abbrev cX7_cutPower : ByteArray := prog_9_method_21_code
def yX7_cutPower : MethodName := ⟨RX7, "cutPower", "(LShingledDisk$Shape;II)V"⟩
abbrev cX7_comeBack : ByteArray := prog_9_method_22_code
def yX7_comeBack : MethodName := ⟨RX7, "comeBack", "(LShingledDisk$Shape;)I"⟩
def RX8 : String := "ShingledDisk$Told"
def TX8 : u_T := fun k => match k with
  | 0 => ("ShingledDisk$Told", "shape", "LShingledDisk$Shape;", true)
  | 1 => ("ShingledDisk$Told", "had", "LShingledDisk$Pairs;", true)
  | 2 => ("ShingledDisk$Told", "writes", "LShingledDisk$Pairs;", true)
  | 3 => ("ShingledDisk$Told", "unsure", "LShingledDisk$Pairs;", true)
  | _ => ("ShingledDisk$Told", "reads", "LShingledDisk$Pairs;", true)
def tyX8 : Nat → FieldType := fun k => match k with
  | 0 => .object "ShingledDisk$Shape"
  | 1 => .object "ShingledDisk$Pairs"
  | 2 => .object "ShingledDisk$Pairs"
  | 3 => .object "ShingledDisk$Pairs"
  | _ => .object "ShingledDisk$Pairs"
theorem nmX8 : ∀ a, a < 5 → ∀ b, b < 5 → a ≠ b → (TX8 a).2.1 ≠ (TX8 b).2.1 := by decide +kernel
theorem tyX8_ok : ∀ k, k < 5 → parseFieldDescriptor (TX8 k).2.2.1 = some (tyX8 k) := by decide +kernel
abbrev cX8_init : ByteArray := prog_10_method_1_code
def yX8_init : MethodName := ⟨RX8, "<init>", "()V"⟩
abbrev cX8_empty : ByteArray := prog_10_method_2_code
def yX8_empty : MethodName := ⟨RX8, "empty", "()V"⟩
abbrev cX8_valueWritten : ByteArray := prog_10_method_3_code
def yX8_valueWritten : MethodName := ⟨RX8, "valueWritten", "(II)I"⟩
def RX9 : String := "ShingledDisk"
def TX9 : u_T := fun k => match k with
  | 0 => ("ShingledDisk", "tape", "[B", true)
  | 1 => ("ShingledDisk", "tapeLength", "I", false)
  | 2 => ("ShingledDisk", "told", "LShingledDisk$Told;", false)
  | 3 => ("ShingledDisk", "spare", "LShingledDisk$Told;", false)
  | 4 => ("ShingledDisk", "parser", "LShingledDisk$Parser;", true)
  | 5 => ("ShingledDisk", "fitSets", "LShingledDisk$FitSets;", true)
  | 6 => ("ShingledDisk", "now", "LShingledDisk$State;", true)
  | 7 => ("ShingledDisk", "trial", "LShingledDisk$State;", true)
  | 8 => ("ShingledDisk", "trialShape", "LShingledDisk$Shape;", true)
  | 9 => ("ShingledDisk", "draws", "LShingledDisk$Draws;", true)
  | 10 => ("ShingledDisk", "history", "LShingledDisk$History;", true)
  | 11 => ("ShingledDisk", "images", "LShingledDisk$Shelf;", true)
  | 12 => ("ShingledDisk", "imageCount", "I", false)
  | 13 => ("ShingledDisk", "latestTrouble", "I", false)
  | 14 => ("ShingledDisk", "latestFault", "I", false)
  | _ => ("ShingledDisk", "faultPlace", "I", false)
def tyX9 : Nat → FieldType := fun k => match k with
  | 0 => .array .byte
  | 1 => .int
  | 2 => .object "ShingledDisk$Told"
  | 3 => .object "ShingledDisk$Told"
  | 4 => .object "ShingledDisk$Parser"
  | 5 => .object "ShingledDisk$FitSets"
  | 6 => .object "ShingledDisk$State"
  | 7 => .object "ShingledDisk$State"
  | 8 => .object "ShingledDisk$Shape"
  | 9 => .object "ShingledDisk$Draws"
  | 10 => .object "ShingledDisk$History"
  | 11 => .object "ShingledDisk$Shelf"
  | 12 => .int
  | 13 => .int
  | 14 => .int
  | _ => .int
theorem nmX9 : ∀ a, a < 16 → ∀ b, b < 16 → a ≠ b → (TX9 a).2.1 ≠ (TX9 b).2.1 := by decide +kernel
theorem tyX9_ok : ∀ k, k < 16 → parseFieldDescriptor (TX9 k).2.2.1 = some (tyX9 k) := by decide +kernel
abbrev cX9_init : ByteArray := prog_1_method_1_code
def yX9_init : MethodName := ⟨RX9, "<init>", "()V"⟩
abbrev cX9_feed : ByteArray := prog_1_method_2_code
def yX9_feed : MethodName := ⟨RX9, "feed", "(IIIII)I"⟩
abbrev cX9_feedNumber : ByteArray := prog_1_method_3_code
def yX9_feedNumber : MethodName := ⟨RX9, "feedNumber", "(I)V"⟩
abbrev cX9_disk : ByteArray := prog_1_method_4_code
def yX9_disk : MethodName := ⟨RX9, "disk", "(I)I"⟩
abbrev cX9_beginAnew : ByteArray := prog_1_method_5_code
def yX9_beginAnew : MethodName := ⟨RX9, "beginAnew", "()V"⟩
abbrev cX9_fault : ByteArray := prog_1_method_6_code
def yX9_fault : MethodName := ⟨RX9, "fault", "()I"⟩
abbrev cX9_where : ByteArray := prog_1_method_7_code
def yX9_where : MethodName := ⟨RX9, "where", "()I"⟩
abbrev cX9_refuse : ByteArray := prog_1_method_8_code
def yX9_refuse : MethodName := ⟨RX9, "refuse", "(I)I"⟩
abbrev cX9_accept : ByteArray := prog_1_method_9_code
def yX9_accept : MethodName := ⟨RX9, "accept", "(I)I"⟩
abbrev cX9_hasDisk : ByteArray := prog_1_method_10_code
def yX9_hasDisk : MethodName := ⟨RX9, "hasDisk", "()Z"⟩
abbrev cX9_hasTrack : ByteArray := prog_1_method_11_code
def yX9_hasTrack : MethodName := ⟨RX9, "hasTrack", "(I)Z"⟩
abbrev cX9_hasBand : ByteArray := prog_1_method_12_code
def yX9_hasBand : MethodName := ⟨RX9, "hasBand", "(I)Z"⟩
abbrev cX9_read : ByteArray := prog_1_method_13_code
def yX9_read : MethodName := ⟨RX9, "read", "(I)I"⟩
abbrev cX9_track : ByteArray := prog_1_method_14_code
def yX9_track : MethodName := ⟨RX9, "track", "(I)I"⟩
abbrev cX9_bandOf : ByteArray := prog_1_method_15_code
def yX9_bandOf : MethodName := ⟨RX9, "bandOf", "(I)I"⟩
abbrev cX9_band : ByteArray := prog_1_method_16_code
def yX9_band : MethodName := ⟨RX9, "band", "(II)I"⟩
abbrev cX9_wide : ByteArray := prog_1_method_17_code
def yX9_wide : MethodName := ⟨RX9, "wide", "()I"⟩
abbrev cX9_down : ByteArray := prog_1_method_18_code
def yX9_down : MethodName := ⟨RX9, "down", "()I"⟩
abbrev cX9_journal : ByteArray := prog_1_method_19_code
def yX9_journal : MethodName := ⟨RX9, "journal", "()I"⟩
abbrev cX9_entries : ByteArray := prog_1_method_20_code
def yX9_entries : MethodName := ⟨RX9, "entries", "()I"⟩
abbrev cX9_entry : ByteArray := prog_1_method_21_code
def yX9_entry : MethodName := ⟨RX9, "entry", "(II)I"⟩
abbrev cX9_live : ByteArray := prog_1_method_22_code
def yX9_live : MethodName := ⟨RX9, "live", "()I"⟩
abbrev cX9_extents : ByteArray := prog_1_method_23_code
def yX9_extents : MethodName := ⟨RX9, "extents", "()I"⟩
abbrev cX9_extent : ByteArray := prog_1_method_24_code
def yX9_extent : MethodName := ⟨RX9, "extent", "(II)I"⟩
abbrev cX9_extentFrom : ByteArray := prog_1_method_25_code
def yX9_extentFrom : MethodName := ⟨RX9, "extentFrom", "(I)I"⟩
abbrev cX9_cleansNext : ByteArray := prog_1_method_26_code
def yX9_cleansNext : MethodName := ⟨RX9, "cleansNext", "()I"⟩
abbrev cX9_cleansThen : ByteArray := prog_1_method_27_code
def yX9_cleansThen : MethodName := ⟨RX9, "cleansThen", "(I)I"⟩
abbrev cX9_steps : ByteArray := prog_1_method_28_code
def yX9_steps : MethodName := ⟨RX9, "steps", "(I)I"⟩
abbrev cX9_rids : ByteArray := prog_1_method_29_code
def yX9_rids : MethodName := ⟨RX9, "rids", "(I)I"⟩
abbrev cX9_damages : ByteArray := prog_1_method_30_code
def yX9_damages : MethodName := ⟨RX9, "damages", "(II)I"⟩
abbrev cX9_fullThen : ByteArray := prog_1_method_31_code
def yX9_fullThen : MethodName := ⟨RX9, "fullThen", "(II)I"⟩
abbrev cX9_readThen : ByteArray := prog_1_method_32_code
def yX9_readThen : MethodName := ⟨RX9, "readThen", "(III)I"⟩
abbrev cX9_recoversBy : ByteArray := prog_1_method_33_code
def yX9_recoversBy : MethodName := ⟨RX9, "recoversBy", "(II)I"⟩
abbrev cX9_whyNoCut : ByteArray := prog_1_method_34_code
def yX9_whyNoCut : MethodName := ⟨RX9, "whyNoCut", "(II)I"⟩
abbrev cX9_tryCut : ByteArray := prog_1_method_35_code
def yX9_tryCut : MethodName := ⟨RX9, "tryCut", "(II)V"⟩
abbrev cX9_runWrites : ByteArray := prog_1_method_36_code
def yX9_runWrites : MethodName := ⟨RX9, "runWrites", "()I"⟩
abbrev cX9_runCleans : ByteArray := prog_1_method_37_code
def yX9_runCleans : MethodName := ⟨RX9, "runCleans", "()I"⟩
abbrev cX9_runRead : ByteArray := prog_1_method_38_code
def yX9_runRead : MethodName := ⟨RX9, "runRead", "(I)I"⟩
abbrev cX9_factor : ByteArray := prog_1_method_39_code
def yX9_factor : MethodName := ⟨RX9, "factor", "(Z)J"⟩
abbrev cX9_greatestDivisor : ByteArray := prog_1_method_40_code
def yX9_greatestDivisor : MethodName := ⟨RX9, "greatestDivisor", "(II)I"⟩
abbrev cX9_bySize : ByteArray := prog_1_method_41_code
def yX9_bySize : MethodName := ⟨RX9, "bySize", "(I)I"⟩
abbrev cX9_bestSize : ByteArray := prog_1_method_42_code
def yX9_bestSize : MethodName := ⟨RX9, "bestSize", "()I"⟩
abbrev cX9_trackWritesBySize : ByteArray := prog_1_method_43_code
def yX9_trackWritesBySize : MethodName := ⟨RX9, "trackWritesBySize", "(I)I"⟩
abbrev cX9_byLog : ByteArray := prog_1_method_44_code
def yX9_byLog : MethodName := ⟨RX9, "byLog", "(I)I"⟩
abbrev cX9_logFor : ByteArray := prog_1_method_45_code
def yX9_logFor : MethodName := ⟨RX9, "logFor", "(I)I"⟩
abbrev cX9_cleaningsByLog : ByteArray := prog_1_method_46_code
def yX9_cleaningsByLog : MethodName := ⟨RX9, "cleaningsByLog", "(I)I"⟩
abbrev cX9_runOn : ByteArray := prog_1_method_47_code
def yX9_runOn : MethodName := ⟨RX9, "runOn", "(LShingledDisk$Shape;I)V"⟩
abbrev cX9_fits : ByteArray := prog_1_method_48_code
def yX9_fits : MethodName := ⟨RX9, "fits", "()I"⟩
abbrev cX9_fitAt : ByteArray := prog_1_method_49_code
def yX9_fitAt : MethodName := ⟨RX9, "fitAt", "(I)I"⟩
abbrev cX9_could : ByteArray := prog_1_method_50_code
def yX9_could : MethodName := ⟨RX9, "could", "()I"⟩
abbrev cX9_surely : ByteArray := prog_1_method_51_code
def yX9_surely : MethodName := ⟨RX9, "surely", "()I"⟩
abbrev cX9_ask : ByteArray := prog_1_method_52_code
def yX9_ask : MethodName := ⟨RX9, "ask", "()I"⟩
abbrev cX9_askLeaves : ByteArray := prog_1_method_53_code
def yX9_askLeaves : MethodName := ⟨RX9, "askLeaves", "()I"⟩
abbrev cX9_judge : ByteArray := prog_1_method_54_code
def yX9_judge : MethodName := ⟨RX9, "judge", "()I"⟩
abbrev cX9_firstReadOtherwise : ByteArray := prog_1_method_55_code
def yX9_firstReadOtherwise : MethodName := ⟨RX9, "firstReadOtherwise", "()I"⟩
abbrev cX9_drawnRead : ByteArray := prog_1_method_56_code
def yX9_drawnRead : MethodName := ⟨RX9, "drawnRead", "(III)I"⟩
abbrev cX9_drawnWrites : ByteArray := prog_1_method_57_code
def yX9_drawnWrites : MethodName := ⟨RX9, "drawnWrites", "(II)I"⟩
abbrev cX9_canDraw : ByteArray := prog_1_method_58_code
def yX9_canDraw : MethodName := ⟨RX9, "canDraw", "(II)Z"⟩
abbrev cX9_tryDraws : ByteArray := prog_1_method_59_code
def yX9_tryDraws : MethodName := ⟨RX9, "tryDraws", "(II)V"⟩
abbrev cX9_write : ByteArray := prog_1_method_60_code
def yX9_write : MethodName := ⟨RX9, "write", "(II)I"⟩
abbrev cX9_clean : ByteArray := prog_1_method_61_code
def yX9_clean : MethodName := ⟨RX9, "clean", "(I)I"⟩
abbrev cX9_cut : ByteArray := prog_1_method_62_code
def yX9_cut : MethodName := ⟨RX9, "cut", "(II)I"⟩
abbrev cX9_recover : ByteArray := prog_1_method_63_code
def yX9_recover : MethodName := ⟨RX9, "recover", "()I"⟩
abbrev cX9_undo : ByteArray := prog_1_method_64_code
def yX9_undo : MethodName := ⟨RX9, "undo", "()Z"⟩
abbrev cX9_image : ByteArray := prog_1_method_65_code
def yX9_image : MethodName := ⟨RX9, "image", "()I"⟩
abbrev cX9_back : ByteArray := prog_1_method_66_code
def yX9_back : MethodName := ⟨RX9, "back", "(I)Z"⟩
abbrev cX9_led : ByteArray := prog_1_method_67_code
def yX9_led : MethodName := ⟨RX9, "led", "(I)I"⟩
abbrev cX9_size : ByteArray := prog_1_method_68_code
def yX9_size : MethodName := ⟨RX9, "size", "(I)I"⟩
abbrev cX9_trouble : ByteArray := prog_1_method_69_code
def yX9_trouble : MethodName := ⟨RX9, "trouble", "()I"⟩
abbrev cX9_at : ByteArray := prog_1_method_70_code
def yX9_at : MethodName := ⟨RX9, "at", "([II)I"⟩
def RX10 : String := "ShingledDiskModel$Disk"
def TX10 : u_T := fun k => match k with
  | 0 => ("ShingledDiskModel$Disk", "overlap", "I", false)
  | 1 => ("ShingledDiskModel$Disk", "log", "I", false)
  | 2 => ("ShingledDiskModel$Disk", "bands", "I", false)
  | 3 => ("ShingledDiskModel$Disk", "tracks", "I", false)
  | 4 => ("ShingledDiskModel$Disk", "hasMany", "I", false)
  | 5 => ("ShingledDiskModel$Disk", "runs", "I", false)
  | 6 => ("ShingledDiskModel$Disk", "unsures", "I", false)
  | 7 => ("ShingledDiskModel$Disk", "reads", "I", false)
  | 8 => ("ShingledDiskModel$Disk", "oldest", "Z", false)
  | 9 => ("ShingledDiskModel$Disk", "size", "[I", true)
  | 10 => ("ShingledDiskModel$Disk", "had", "[I", true)
  | 11 => ("ShingledDiskModel$Disk", "run", "[I", true)
  | 12 => ("ShingledDiskModel$Disk", "runValue", "[I", true)
  | 13 => ("ShingledDiskModel$Disk", "unsure", "[I", true)
  | 14 => ("ShingledDiskModel$Disk", "may", "[I", true)
  | 15 => ("ShingledDiskModel$Disk", "read", "[I", true)
  | 16 => ("ShingledDiskModel$Disk", "readValue", "[I", true)
  | _ => ("ShingledDiskModel$Disk", "has", "[Z", true)
def tyX10 : Nat → FieldType := fun k => match k with
  | 0 => .int
  | 1 => .int
  | 2 => .int
  | 3 => .int
  | 4 => .int
  | 5 => .int
  | 6 => .int
  | 7 => .int
  | 8 => .boolean
  | 9 => .array .int
  | 10 => .array .int
  | 11 => .array .int
  | 12 => .array .int
  | 13 => .array .int
  | 14 => .array .int
  | 15 => .array .int
  | 16 => .array .int
  | _ => .array .boolean
theorem nmX10 : ∀ a, a < 18 → ∀ b, b < 18 → a ≠ b → (TX10 a).2.1 ≠ (TX10 b).2.1 := by decide +kernel
theorem tyX10_ok : ∀ k, k < 18 → parseFieldDescriptor (TX10 k).2.2.1 = some (tyX10 k) := by decide +kernel
abbrev cX10_init : ByteArray := prog_13_method_1_code
def yX10_init : MethodName := ⟨RX10, "<init>", "()V"⟩
abbrev cX10_stands : ByteArray := prog_13_method_2_code
def yX10_stands : MethodName := ⟨RX10, "stands", "([III)Z"⟩
def RX11 : String := "ShingledDiskModel"
def TX11 : u_T := fun k => match k with
  | 0 => ("ShingledDiskModel", "thrown", "I", false)
  | 1 => ("ShingledDiskModel", "trouble", "I", false)
  | 2 => ("ShingledDiskModel", "where", "I", false)
  | 3 => ("ShingledDiskModel", "disk", "LShingledDiskModel$Disk;", false)
  | 4 => ("ShingledDiskModel", "read", "LShingledDiskModel$Disk;", false)
  | 5 => ("ShingledDiskModel", "tape", "[B", true)
  | 6 => ("ShingledDiskModel", "taped", "I", false)
  | 7 => ("ShingledDiskModel", "size", "I", false)
  | 8 => ("ShingledDiskModel", "spot", "I", false)
  | 9 => ("ShingledDiskModel", "sort", "I", false)
  | 10 => ("ShingledDiskModel", "place", "I", false)
  | 11 => ("ShingledDiskModel", "number", "I", false)
  | 12 => ("ShingledDiskModel", "fault", "I", false)
  | 13 => ("ShingledDiskModel", "wrongAt", "I", false)
  | 14 => ("ShingledDiskModel", "word", "J", false)
  | 15 => ("ShingledDiskModel", "v0", "[I", true)
  | 16 => ("ShingledDiskModel", "x", "[I", true)
  | 17 => ("ShingledDiskModel", "past", "[I", true)
  | 18 => ("ShingledDiskModel", "kept", "[I", true)
  | 19 => ("ShingledDiskModel", "acts", "I", false)
  | 20 => ("ShingledDiskModel", "images", "I", false)
  | 21 => ("ShingledDiskModel", "first", "[I", true)
  | 22 => ("ShingledDiskModel", "sizes", "[I", true)
  | 23 => ("ShingledDiskModel", "bands", "I", false)
  | 24 => ("ShingledDiskModel", "places", "I", false)
  | 25 => ("ShingledDiskModel", "cleaned", "I", false)
  | 26 => ("ShingledDiskModel", "from", "[I", true)
  | 27 => ("ShingledDiskModel", "many", "[I", true)
  | 28 => ("ShingledDiskModel", "extents", "I", false)
  | 29 => ("ShingledDiskModel", "fitsNow", "I", false)
  | 30 => ("ShingledDiskModel", "someNow", "I", false)
  | 31 => ("ShingledDiskModel", "everyNow", "I", false)
  | 32 => ("ShingledDiskModel", "otherIn", "[I", true)
  | 33 => ("ShingledDiskModel", "askLeft", "I", false)
  | 34 => ("ShingledDiskModel", "drawn", "I", false)
  | _ => ("ShingledDiskModel", "drawnCount", "I", false)
def tyX11 : Nat → FieldType := fun k => match k with
  | 0 => .int
  | 1 => .int
  | 2 => .int
  | 3 => .object "ShingledDiskModel$Disk"
  | 4 => .object "ShingledDiskModel$Disk"
  | 5 => .array .byte
  | 6 => .int
  | 7 => .int
  | 8 => .int
  | 9 => .int
  | 10 => .int
  | 11 => .int
  | 12 => .int
  | 13 => .int
  | 14 => .long
  | 15 => .array .int
  | 16 => .array .int
  | 17 => .array .int
  | 18 => .array .int
  | 19 => .int
  | 20 => .int
  | 21 => .array .int
  | 22 => .array .int
  | 23 => .int
  | 24 => .int
  | 25 => .int
  | 26 => .array .int
  | 27 => .array .int
  | 28 => .int
  | 29 => .int
  | 30 => .int
  | 31 => .int
  | 32 => .array .int
  | 33 => .int
  | 34 => .int
  | _ => .int
theorem nmX11 : ∀ a, a < 36 → ∀ b, b < 36 → a ≠ b → (TX11 a).2.1 ≠ (TX11 b).2.1 := by decide +kernel
theorem tyX11_ok : ∀ k, k < 36 → parseFieldDescriptor (TX11 k).2.2.1 = some (tyX11 k) := by decide +kernel
abbrev cX11_init : ByteArray := prog_12_method_1_code
def yX11_init : MethodName := ⟨RX11, "<init>", "()V"⟩
abbrev cX11_thrown : ByteArray := prog_12_method_2_code
def yX11_thrown : MethodName := ⟨RX11, "thrown", "()I"⟩
abbrev cX11_refused : ByteArray := prog_12_method_3_code
def yX11_refused : MethodName := ⟨RX11, "refused", "(I)I"⟩
abbrev cX11_denied : ByteArray := prog_12_method_4_code
def yX11_denied : MethodName := ⟨RX11, "denied", "(I)Z"⟩
abbrev cX11_good : ByteArray := prog_12_method_5_code
def yX11_good : MethodName := ⟨RX11, "good", "(I)I"⟩
abbrev cX11_granted : ByteArray := prog_12_method_6_code
def yX11_granted : MethodName := ⟨RX11, "granted", "()Z"⟩
abbrev cX11_in : ByteArray := prog_12_method_7_code
def yX11_in : MethodName := ⟨RX11, "in", "(III)Z"⟩
abbrev cX11_bit : ByteArray := prog_12_method_8_code
def yX11_bit : MethodName := ⟨RX11, "bit", "(II)Z"⟩
abbrev cX11_common : ByteArray := prog_12_method_9_code
def yX11_common : MethodName := ⟨RX11, "common", "(JJ)J"⟩
abbrev cX11_fraction : ByteArray := prog_12_method_10_code
def yX11_fraction : MethodName := ⟨RX11, "fraction", "(JJZ)J"⟩
abbrev cX11_byteAt : ByteArray := prog_12_method_11_code
def yX11_byteAt : MethodName := ⟨RX11, "byteAt", "(I)I"⟩
abbrev cX11_isLetter : ByteArray := prog_12_method_12_code
def yX11_isLetter : MethodName := ⟨RX11, "isLetter", "(I)Z"⟩
abbrev cX11_isDigit : ByteArray := prog_12_method_13_code
def yX11_isDigit : MethodName := ⟨RX11, "isDigit", "(I)Z"⟩
abbrev cX11_packed : ByteArray := prog_12_method_14_code
def yX11_packed : MethodName := ⟨RX11, "packed", "(Ljava/lang/String;)J"⟩
abbrev cX11_goesOn : ByteArray := prog_12_method_15_code
def yX11_goesOn : MethodName := ⟨RX11, "goesOn", "()V"⟩
abbrev cX11_flaw : ByteArray := prog_12_method_16_code
def yX11_flaw : MethodName := ⟨RX11, "flaw", "(I)V"⟩
abbrev cX11_isWord : ByteArray := prog_12_method_17_code
def yX11_isWord : MethodName := ⟨RX11, "isWord", "(Ljava/lang/String;)Z"⟩
abbrev cX11_eatsSemicolon : ByteArray := prog_12_method_18_code
def yX11_eatsSemicolon : MethodName := ⟨RX11, "eatsSemicolon", "()Z"⟩
abbrev cX11_needs : ByteArray := prog_12_method_19_code
def yX11_needs : MethodName := ⟨RX11, "needs", "(Ljava/lang/String;)V"⟩
abbrev cX11_wholeAt : ByteArray := prog_12_method_20_code
def yX11_wholeAt : MethodName := ⟨RX11, "wholeAt", "(II)I"⟩
abbrev cX11_readWhole : ByteArray := prog_12_method_21_code
def yX11_readWhole : MethodName := ⟨RX11, "readWhole", "(II)I"⟩
abbrev cX11_readPart : ByteArray := prog_12_method_22_code
def yX11_readPart : MethodName := ⟨RX11, "readPart", "(Ljava/lang/String;II)I"⟩
abbrev cX11_lineBegins : ByteArray := prog_12_method_23_code
def yX11_lineBegins : MethodName := ⟨RX11, "lineBegins", "(II)V"⟩
abbrev cX11_toldAt : ByteArray := prog_12_method_24_code
def yX11_toldAt : MethodName := ⟨RX11, "toldAt", "(I)I"⟩
abbrev cX11_readAll : ByteArray := prog_12_method_25_code
def yX11_readAll : MethodName := ⟨RX11, "readAll", "()V"⟩
abbrev cX11_readLine : ByteArray := prog_12_method_26_code
def yX11_readLine : MethodName := ⟨RX11, "readLine", "()V"⟩
abbrev cX11_readDisk : ByteArray := prog_12_method_27_code
def yX11_readDisk : MethodName := ⟨RX11, "readDisk", "()V"⟩
abbrev cX11_readBand : ByteArray := prog_12_method_28_code
def yX11_readBand : MethodName := ⟨RX11, "readBand", "()V"⟩
abbrev cX11_readHas : ByteArray := prog_12_method_29_code
def yX11_readHas : MethodName := ⟨RX11, "readHas", "()V"⟩
abbrev cX11_readWrite : ByteArray := prog_12_method_30_code
def yX11_readWrite : MethodName := ⟨RX11, "readWrite", "()V"⟩
abbrev cX11_readUnsure : ByteArray := prog_12_method_31_code
def yX11_readUnsure : MethodName := ⟨RX11, "readUnsure", "()V"⟩
abbrev cX11_readRead : ByteArray := prog_12_method_32_code
def yX11_readRead : MethodName := ⟨RX11, "readRead", "()V"⟩
abbrev cX11_feed : ByteArray := prog_12_method_33_code
def yX11_feed : MethodName := ⟨RX11, "feed", "(IIIII)I"⟩
abbrev cX11_disk : ByteArray := prog_12_method_34_code
def yX11_disk : MethodName := ⟨RX11, "disk", "(I)I"⟩
abbrev cX11_fault : ByteArray := prog_12_method_35_code
def yX11_fault : MethodName := ⟨RX11, "fault", "()I"⟩
abbrev cX11_where : ByteArray := prog_12_method_36_code
def yX11_where : MethodName := ⟨RX11, "where", "()I"⟩
abbrev cX11_bandsAsTold : ByteArray := prog_12_method_37_code
def yX11_bandsAsTold : MethodName := ⟨RX11, "bandsAsTold", "()V"⟩
abbrev cX11_bandsBySize : ByteArray := prog_12_method_38_code
def yX11_bandsBySize : MethodName := ⟨RX11, "bandsBySize", "(I)V"⟩
abbrev cX11_works : ByteArray := prog_12_method_39_code
def yX11_works : MethodName := ⟨RX11, "works", "()V"⟩
abbrev cX11_remains : ByteArray := prog_12_method_40_code
def yX11_remains : MethodName := ⟨RX11, "remains", "()V"⟩
abbrev cX11_asTold : ByteArray := prog_12_method_41_code
def yX11_asTold : MethodName := ⟨RX11, "asTold", "()V"⟩
abbrev cX11_bandAt : ByteArray := prog_12_method_42_code
def yX11_bandAt : MethodName := ⟨RX11, "bandAt", "(I)I"⟩
abbrev cX11_isIn : ByteArray := prog_12_method_43_code
def yX11_isIn : MethodName := ⟨RX11, "isIn", "(II)Z"⟩
abbrev cX11_isLive : ByteArray := prog_12_method_44_code
def yX11_isLive : MethodName := ⟨RX11, "isLive", "(I)Z"⟩
abbrev cX11_liveOf : ByteArray := prog_12_method_45_code
def yX11_liveOf : MethodName := ⟨RX11, "liveOf", "(I)I"⟩
abbrev cX11_readOf : ByteArray := prog_12_method_46_code
def yX11_readOf : MethodName := ⟨RX11, "readOf", "(I)I"⟩
abbrev cX11_entriesOf : ByteArray := prog_12_method_47_code
def yX11_entriesOf : MethodName := ⟨RX11, "entriesOf", "(IZ)I"⟩
abbrev cX11_liveMany : ByteArray := prog_12_method_48_code
def yX11_liveMany : MethodName := ⟨RX11, "liveMany", "()I"⟩
abbrev cX11_nextBand : ByteArray := prog_12_method_49_code
def yX11_nextBand : MethodName := ⟨RX11, "nextBand", "()I"⟩
abbrev cX11_fullest : ByteArray := prog_12_method_50_code
def yX11_fullest : MethodName := ⟨RX11, "fullest", "()I"⟩
abbrev cX11_taken : ByteArray := prog_12_method_51_code
def yX11_taken : MethodName := ⟨RX11, "taken", "(I)V"⟩
abbrev cX11_enters : ByteArray := prog_12_method_52_code
def yX11_enters : MethodName := ⟨RX11, "enters", "(III)V"⟩
abbrev cX11_stepsOf : ByteArray := prog_12_method_53_code
def yX11_stepsOf : MethodName := ⟨RX11, "stepsOf", "(I)I"⟩
abbrev cX11_laid : ByteArray := prog_12_method_54_code
def yX11_laid : MethodName := ⟨RX11, "laid", "(III)V"⟩
abbrev cX11_emptied : ByteArray := prog_12_method_55_code
def yX11_emptied : MethodName := ⟨RX11, "emptied", "()V"⟩
abbrev cX11_step : ByteArray := prog_12_method_56_code
def yX11_step : MethodName := ⟨RX11, "step", "(II)V"⟩
abbrev cX11_journaled : ByteArray := prog_12_method_57_code
def yX11_journaled : MethodName := ⟨RX11, "journaled", "(II)V"⟩
abbrev cX11_ended : ByteArray := prog_12_method_58_code
def yX11_ended : MethodName := ⟨RX11, "ended", "(I)V"⟩
abbrev cX11_stepsTo : ByteArray := prog_12_method_59_code
def yX11_stepsTo : MethodName := ⟨RX11, "stepsTo", "(II)V"⟩
abbrev cX11_cleans : ByteArray := prog_12_method_60_code
def yX11_cleans : MethodName := ⟨RX11, "cleans", "(I)I"⟩
abbrev cX11_damagedIn : ByteArray := prog_12_method_61_code
def yX11_damagedIn : MethodName := ⟨RX11, "damagedIn", "(I)I"⟩
abbrev cX11_damagedNow : ByteArray := prog_12_method_62_code
def yX11_damagedNow : MethodName := ⟨RX11, "damagedNow", "()I"⟩
abbrev cX11_cuts : ByteArray := prog_12_method_63_code
def yX11_cuts : MethodName := ⟨RX11, "cuts", "(II)I"⟩
abbrev cX11_recovers : ByteArray := prog_12_method_64_code
def yX11_recovers : MethodName := ⟨RX11, "recovers", "()I"⟩
abbrev cX11_writes : ByteArray := prog_12_method_65_code
def yX11_writes : MethodName := ⟨RX11, "writes", "(II)I"⟩
abbrev cX11_isTrack : ByteArray := prog_12_method_66_code
def yX11_isTrack : MethodName := ⟨RX11, "isTrack", "(I)Z"⟩
abbrev cX11_isBand : ByteArray := prog_12_method_67_code
def yX11_isBand : MethodName := ⟨RX11, "isBand", "(I)Z"⟩
abbrev cX11_isDown : ByteArray := prog_12_method_68_code
def yX11_isDown : MethodName := ⟨RX11, "isDown", "()Z"⟩
abbrev cX11_read : ByteArray := prog_12_method_69_code
def yX11_read : MethodName := ⟨RX11, "read", "(I)I"⟩
abbrev cX11_track : ByteArray := prog_12_method_70_code
def yX11_track : MethodName := ⟨RX11, "track", "(I)I"⟩
abbrev cX11_bandOf : ByteArray := prog_12_method_71_code
def yX11_bandOf : MethodName := ⟨RX11, "bandOf", "(I)I"⟩
abbrev cX11_band : ByteArray := prog_12_method_72_code
def yX11_band : MethodName := ⟨RX11, "band", "(II)I"⟩
abbrev cX11_wide : ByteArray := prog_12_method_73_code
def yX11_wide : MethodName := ⟨RX11, "wide", "()I"⟩
abbrev cX11_down : ByteArray := prog_12_method_74_code
def yX11_down : MethodName := ⟨RX11, "down", "()I"⟩
abbrev cX11_journal : ByteArray := prog_12_method_75_code
def yX11_journal : MethodName := ⟨RX11, "journal", "()I"⟩
abbrev cX11_isEntry : ByteArray := prog_12_method_76_code
def yX11_isEntry : MethodName := ⟨RX11, "isEntry", "(I)Z"⟩
abbrev cX11_entries : ByteArray := prog_12_method_77_code
def yX11_entries : MethodName := ⟨RX11, "entries", "()I"⟩
abbrev cX11_entry : ByteArray := prog_12_method_78_code
def yX11_entry : MethodName := ⟨RX11, "entry", "(II)I"⟩
abbrev cX11_live : ByteArray := prog_12_method_79_code
def yX11_live : MethodName := ⟨RX11, "live", "()I"⟩
abbrev cX11_goesWith : ByteArray := prog_12_method_80_code
def yX11_goesWith : MethodName := ⟨RX11, "goesWith", "(I)Z"⟩
abbrev cX11_extentsNow : ByteArray := prog_12_method_81_code
def yX11_extentsNow : MethodName := ⟨RX11, "extentsNow", "()V"⟩
abbrev cX11_extents : ByteArray := prog_12_method_82_code
def yX11_extents : MethodName := ⟨RX11, "extents", "()I"⟩
abbrev cX11_extent : ByteArray := prog_12_method_83_code
def yX11_extent : MethodName := ⟨RX11, "extent", "(II)I"⟩
abbrev cX11_extentFrom : ByteArray := prog_12_method_84_code
def yX11_extentFrom : MethodName := ⟨RX11, "extentFrom", "(I)I"⟩
abbrev cX11_cleansNext : ByteArray := prog_12_method_85_code
def yX11_cleansNext : MethodName := ⟨RX11, "cleansNext", "()I"⟩
abbrev cX11_cleansThen : ByteArray := prog_12_method_86_code
def yX11_cleansThen : MethodName := ⟨RX11, "cleansThen", "(I)I"⟩
abbrev cX11_steps : ByteArray := prog_12_method_87_code
def yX11_steps : MethodName := ⟨RX11, "steps", "(I)I"⟩
abbrev cX11_rids : ByteArray := prog_12_method_88_code
def yX11_rids : MethodName := ⟨RX11, "rids", "(I)I"⟩
abbrev cX11_refusesCut : ByteArray := prog_12_method_89_code
def yX11_refusesCut : MethodName := ⟨RX11, "refusesCut", "(II)I"⟩
abbrev cX11_damages : ByteArray := prog_12_method_90_code
def yX11_damages : MethodName := ⟨RX11, "damages", "(II)I"⟩
abbrev cX11_fullThen : ByteArray := prog_12_method_91_code
def yX11_fullThen : MethodName := ⟨RX11, "fullThen", "(II)I"⟩
abbrev cX11_readThen : ByteArray := prog_12_method_92_code
def yX11_readThen : MethodName := ⟨RX11, "readThen", "(III)I"⟩
abbrev cX11_recoversBy : ByteArray := prog_12_method_93_code
def yX11_recoversBy : MethodName := ⟨RX11, "recoversBy", "(II)I"⟩
abbrev cX11_goes : ByteArray := prog_12_method_94_code
def yX11_goes : MethodName := ⟨RX11, "goes", "(I)V"⟩
abbrev cX11_whatOf : ByteArray := prog_12_method_95_code
def yX11_whatOf : MethodName := ⟨RX11, "whatOf", "(II)I"⟩
abbrev cX11_runs : ByteArray := prog_12_method_96_code
def yX11_runs : MethodName := ⟨RX11, "runs", "()V"⟩
abbrev cX11_runWrites : ByteArray := prog_12_method_97_code
def yX11_runWrites : MethodName := ⟨RX11, "runWrites", "()I"⟩
abbrev cX11_runCleans : ByteArray := prog_12_method_98_code
def yX11_runCleans : MethodName := ⟨RX11, "runCleans", "()I"⟩
abbrev cX11_runRead : ByteArray := prog_12_method_99_code
def yX11_runRead : MethodName := ⟨RX11, "runRead", "(I)I"⟩
abbrev cX11_factor : ByteArray := prog_12_method_100_code
def yX11_factor : MethodName := ⟨RX11, "factor", "(Z)J"⟩
abbrev cX11_writesBySize : ByteArray := prog_12_method_101_code
def yX11_writesBySize : MethodName := ⟨RX11, "writesBySize", "(I)I"⟩
abbrev cX11_bySize : ByteArray := prog_12_method_102_code
def yX11_bySize : MethodName := ⟨RX11, "bySize", "(I)I"⟩
abbrev cX11_bestSize : ByteArray := prog_12_method_103_code
def yX11_bestSize : MethodName := ⟨RX11, "bestSize", "()I"⟩
abbrev cX11_cleansByLog : ByteArray := prog_12_method_104_code
def yX11_cleansByLog : MethodName := ⟨RX11, "cleansByLog", "(I)I"⟩
abbrev cX11_byLog : ByteArray := prog_12_method_105_code
def yX11_byLog : MethodName := ⟨RX11, "byLog", "(I)I"⟩
abbrev cX11_logFor : ByteArray := prog_12_method_106_code
def yX11_logFor : MethodName := ⟨RX11, "logFor", "(I)I"⟩
abbrev cX11_wrongRead : ByteArray := prog_12_method_107_code
def yX11_wrongRead : MethodName := ⟨RX11, "wrongRead", "(I)I"⟩
abbrev cX11_fitting : ByteArray := prog_12_method_108_code
def yX11_fitting : MethodName := ⟨RX11, "fitting", "(I)I"⟩
abbrev cX11_fits : ByteArray := prog_12_method_109_code
def yX11_fits : MethodName := ⟨RX11, "fits", "()I"⟩
abbrev cX11_fitAt : ByteArray := prog_12_method_110_code
def yX11_fitAt : MethodName := ⟨RX11, "fitAt", "(I)I"⟩
abbrev cX11_could : ByteArray := prog_12_method_111_code
def yX11_could : MethodName := ⟨RX11, "could", "()I"⟩
abbrev cX11_surely : ByteArray := prog_12_method_112_code
def yX11_surely : MethodName := ⟨RX11, "surely", "()I"⟩
abbrev cX11_asks : ByteArray := prog_12_method_113_code
def yX11_asks : MethodName := ⟨RX11, "asks", "()I"⟩
abbrev cX11_ask : ByteArray := prog_12_method_114_code
def yX11_ask : MethodName := ⟨RX11, "ask", "()I"⟩
abbrev cX11_askLeaves : ByteArray := prog_12_method_115_code
def yX11_askLeaves : MethodName := ⟨RX11, "askLeaves", "()I"⟩
abbrev cX11_judge : ByteArray := prog_12_method_116_code
def yX11_judge : MethodName := ⟨RX11, "judge", "()I"⟩
abbrev cX11_draws : ByteArray := prog_12_method_117_code
def yX11_draws : MethodName := ⟨RX11, "draws", "(I)I"⟩
abbrev cX11_drawnCut : ByteArray := prog_12_method_118_code
def yX11_drawnCut : MethodName := ⟨RX11, "drawnCut", "()V"⟩
abbrev cX11_drawnTurns : ByteArray := prog_12_method_119_code
def yX11_drawnTurns : MethodName := ⟨RX11, "drawnTurns", "(II)V"⟩
abbrev cX11_refusesDraw : ByteArray := prog_12_method_120_code
def yX11_refusesDraw : MethodName := ⟨RX11, "refusesDraw", "(ZII)I"⟩
abbrev cX11_drawnRead : ByteArray := prog_12_method_121_code
def yX11_drawnRead : MethodName := ⟨RX11, "drawnRead", "(III)I"⟩
abbrev cX11_drawnWrites : ByteArray := prog_12_method_122_code
def yX11_drawnWrites : MethodName := ⟨RX11, "drawnWrites", "(II)I"⟩
abbrev cX11_remembers : ByteArray := prog_12_method_123_code
def yX11_remembers : MethodName := ⟨RX11, "remembers", "()V"⟩
abbrev cX11_done : ByteArray := prog_12_method_124_code
def yX11_done : MethodName := ⟨RX11, "done", "(I)I"⟩
abbrev cX11_write : ByteArray := prog_12_method_125_code
def yX11_write : MethodName := ⟨RX11, "write", "(II)I"⟩
abbrev cX11_clean : ByteArray := prog_12_method_126_code
def yX11_clean : MethodName := ⟨RX11, "clean", "(I)I"⟩
abbrev cX11_cut : ByteArray := prog_12_method_127_code
def yX11_cut : MethodName := ⟨RX11, "cut", "(II)I"⟩
abbrev cX11_recover : ByteArray := prog_12_method_128_code
def yX11_recover : MethodName := ⟨RX11, "recover", "()I"⟩
abbrev cX11_undo : ByteArray := prog_12_method_129_code
def yX11_undo : MethodName := ⟨RX11, "undo", "()Z"⟩
abbrev cX11_image : ByteArray := prog_12_method_130_code
def yX11_image : MethodName := ⟨RX11, "image", "()I"⟩
abbrev cX11_back : ByteArray := prog_12_method_131_code
def yX11_back : MethodName := ⟨RX11, "back", "(I)Z"⟩
abbrev cX11_led : ByteArray := prog_12_method_132_code
def yX11_led : MethodName := ⟨RX11, "led", "(I)I"⟩
abbrev cX11_size : ByteArray := prog_12_method_133_code
def yX11_size : MethodName := ⟨RX11, "size", "(I)I"⟩
abbrev cX11_trouble : ByteArray := prog_12_method_134_code
def yX11_trouble : MethodName := ⟨RX11, "trouble", "()I"⟩
def RJx145de : String := "java/io/Serializable"
def TJx145de : u_T := fun k => match k with
  | _ => ("", "", "", false)
def tyJx145de : Nat → FieldType := fun k => match k with
  | _ => .int
theorem nmJx145de : ∀ a, a < 0 → ∀ b, b < 0 → a ≠ b → (TJx145de a).2.1 ≠ (TJx145de b).2.1 := by decide +kernel
theorem tyJx145de_ok : ∀ k, k < 0 → parseFieldDescriptor (TJx145de k).2.2.1 = some (tyJx145de k) := by decide +kernel
def RJx9f9b0 : String := "java/lang/CharSequence"
def TJx9f9b0 : u_T := fun k => match k with
  | _ => ("", "", "", false)
def tyJx9f9b0 : Nat → FieldType := fun k => match k with
  | _ => .int
theorem nmJx9f9b0 : ∀ a, a < 0 → ∀ b, b < 0 → a ≠ b → (TJx9f9b0 a).2.1 ≠ (TJx9f9b0 b).2.1 := by decide +kernel
theorem tyJx9f9b0_ok : ∀ k, k < 0 → parseFieldDescriptor (TJx9f9b0 k).2.2.1 = some (tyJx9f9b0 k) := by decide +kernel
def RJxb160c : String := "java/lang/Comparable"
def TJxb160c : u_T := fun k => match k with
  | _ => ("", "", "", false)
def tyJxb160c : Nat → FieldType := fun k => match k with
  | _ => .int
theorem nmJxb160c : ∀ a, a < 0 → ∀ b, b < 0 → a ≠ b → (TJxb160c a).2.1 ≠ (TJxb160c b).2.1 := by decide +kernel
theorem tyJxb160c_ok : ∀ k, k < 0 → parseFieldDescriptor (TJxb160c k).2.2.1 = some (tyJxb160c k) := by decide +kernel
def RJ9 : String := "java/lang/Math"
def TJ9 : u_T := fun k => match k with
  | _ => ("", "", "", false)
def tyJ9 : Nat → FieldType := fun k => match k with
  | _ => .int
theorem nmJ9 : ∀ a, a < 0 → ∀ b, b < 0 → a ≠ b → (TJ9 a).2.1 ≠ (TJ9 b).2.1 := by decide +kernel
theorem tyJ9_ok : ∀ k, k < 0 → parseFieldDescriptor (TJ9 k).2.2.1 = some (tyJ9 k) := by decide +kernel
abbrev cJ9_max_7cf53 : ByteArray := prog_18_method_65_code
def yJ9_max_7cf53 : MethodName := ⟨RJ9, "max", "(II)I"⟩
abbrev cJ9_min_7cf53 : ByteArray := prog_18_method_69_code
def yJ9_min_7cf53 : MethodName := ⟨RJ9, "min", "(II)I"⟩
def RJ0 : String := "java/lang/String"
def TJ0 : u_T := fun k => match k with
  | _ => ("", "", "", false)
def tyJ0 : Nat → FieldType := fun k => match k with
  | _ => .int
theorem nmJ0 : ∀ a, a < 0 → ∀ b, b < 0 → a ≠ b → (TJ0 a).2.1 ≠ (TJ0 b).2.1 := by decide +kernel
theorem tyJ0_ok : ∀ k, k < 0 → parseFieldDescriptor (TJ0 k).2.2.1 = some (tyJ0 k) := by decide +kernel
abbrev cJ0_length_8abf5 : ByteArray := prog_20_method_54_code
def yJ0_length_8abf5 : MethodName := ⟨RJ0, "length", "()I"⟩
abbrev cJ0_charAt_5068e : ByteArray := prog_20_method_56_code
def yJ0_charAt_5068e : MethodName := ⟨RJ0, "charAt", "(I)C"⟩
abbrev cJ0_coder_7d493 : ByteArray := prog_20_method_152_code
def yJ0_coder_7d493 : MethodName := ⟨RJ0, "coder", "()B"⟩
abbrev cJ0_isLatin1_aae02 : ByteArray := prog_20_method_154_code
def yJ0_isLatin1_aae02 : MethodName := ⟨RJ0, "isLatin1", "()Z"⟩
abbrev cJ0_checkIndex_df160 : ByteArray := prog_20_method_155_code
def yJ0_checkIndex_df160 : MethodName := ⟨RJ0, "checkIndex", "(II)V"⟩
def RJ1 : String := "java/lang/StringLatin1"
def TJ1 : u_T := fun k => match k with
  | _ => ("", "", "", false)
def tyJ1 : Nat → FieldType := fun k => match k with
  | _ => .int
theorem nmJ1 : ∀ a, a < 0 → ∀ b, b < 0 → a ≠ b → (TJ1 a).2.1 ≠ (TJ1 b).2.1 := by decide +kernel
theorem tyJ1_ok : ∀ k, k < 0 → parseFieldDescriptor (TJ1 k).2.2.1 = some (tyJ1 k) := by decide +kernel
abbrev cJ1_charAt_3b067 : ByteArray := prog_21_method_2_code
def yJ1_charAt_3b067 : MethodName := ⟨RJ1, "charAt", "([BI)C"⟩
def RJ2 : String := "java/lang/StringUTF16"
def TJ2 : u_T := fun k => match k with
  | _ => ("", "", "", false)
def tyJ2 : Nat → FieldType := fun k => match k with
  | _ => .int
theorem nmJ2 : ∀ a, a < 0 → ∀ b, b < 0 → a ≠ b → (TJ2 a).2.1 ≠ (TJ2 b).2.1 := by decide +kernel
theorem tyJ2_ok : ∀ k, k < 0 → parseFieldDescriptor (TJ2 k).2.2.1 = some (tyJ2 k) := by decide +kernel
abbrev cJ2_getChar_3b067 : ByteArray := prog_22_method_5_code
def yJ2_getChar_3b067 : MethodName := ⟨RJ2, "getChar", "([BI)C"⟩
abbrev cJ2_length_9d52b : ByteArray := prog_22_method_6_code
def yJ2_length_9d52b : MethodName := ⟨RJ2, "length", "([B)I"⟩
abbrev cJ2_charAt_3b067 : ByteArray := prog_22_method_83_code
def yJ2_charAt_3b067 : MethodName := ⟨RJ2, "charAt", "([BI)C"⟩
abbrev cJ2_checkIndex_2214a : ByteArray := prog_22_method_91_code
def yJ2_checkIndex_2214a : MethodName := ⟨RJ2, "checkIndex", "(I[B)V"⟩
def RJ10 : String := "java/lang/System"
def TJ10 : u_T := fun k => match k with
  | _ => ("", "", "", false)
def tyJ10 : Nat → FieldType := fun k => match k with
  | _ => .int
theorem nmJ10 : ∀ a, a < 0 → ∀ b, b < 0 → a ≠ b → (TJ10 a).2.1 ≠ (TJ10 b).2.1 := by decide +kernel
theorem tyJ10_ok : ∀ k, k < 0 → parseFieldDescriptor (TJ10 k).2.2.1 = some (tyJ10 k) := by decide +kernel
def RJxfd54e : String := "java/lang/constant/Constable"
def TJxfd54e : u_T := fun k => match k with
  | _ => ("", "", "", false)
def tyJxfd54e : Nat → FieldType := fun k => match k with
  | _ => .int
theorem nmJxfd54e : ∀ a, a < 0 → ∀ b, b < 0 → a ≠ b → (TJxfd54e a).2.1 ≠ (TJxfd54e b).2.1 := by decide +kernel
theorem tyJxfd54e_ok : ∀ k, k < 0 → parseFieldDescriptor (TJxfd54e k).2.2.1 = some (tyJxfd54e k) := by decide +kernel
def RJx3cf43 : String := "java/lang/constant/ConstantDesc"
def TJx3cf43 : u_T := fun k => match k with
  | _ => ("", "", "", false)
def tyJx3cf43 : Nat → FieldType := fun k => match k with
  | _ => .int
theorem nmJx3cf43 : ∀ a, a < 0 → ∀ b, b < 0 → a ≠ b → (TJx3cf43 a).2.1 ≠ (TJx3cf43 b).2.1 := by decide +kernel
theorem tyJx3cf43_ok : ∀ k, k < 0 → parseFieldDescriptor (TJx3cf43 k).2.2.1 = some (tyJx3cf43 k) := by decide +kernel
def RJ3 : String := "jdk/internal/util/Preconditions"
def TJ3 : u_T := fun k => match k with
  | _ => ("", "", "", false)
def tyJ3 : Nat → FieldType := fun k => match k with
  | _ => .int
theorem nmJ3 : ∀ a, a < 0 → ∀ b, b < 0 → a ≠ b → (TJ3 a).2.1 ≠ (TJ3 b).2.1 := by decide +kernel
theorem tyJ3_ok : ∀ k, k < 0 → parseFieldDescriptor (TJ3 k).2.2.1 = some (tyJ3 k) := by decide +kernel
abbrev cJ3_checkIndex_8e157 : ByteArray := prog_28_method_11_code
def yJ3_checkIndex_8e157 : MethodName := ⟨RJ3, "checkIndex", "(IILjava/util/function/BiFunction;)I"⟩
def RL : String := "ShingledDiskLaw"
abbrev cL_led : ByteArray := method_3_code
def yL_led : MethodName := ⟨RL, "led", "(LShingledDisk;I[J)I"⟩
abbrev cL_law : ByteArray := code
def yL_law : MethodName := ⟨RL, "law", "([I)Z"⟩
abbrev vwCl : List vw_C := [(RX0, TX0, 1), (RX1, TX1, 2), (RX2, TX2, 3), (RX3, TX3, 3), (RX4, TX4, 10), (RX5, TX5, 8), (RX6, TX6, 1), (RX7, TX7, 11), (RX8, TX8, 5), (RX9, TX9, 16), (RX10, TX10, 18), (RX11, TX11, 36)]
