section
-- ===== PART A: goes FIRST, ahead of the names: the tables' words, and 'selects' of the private methods out of them =====
/-- a private method of a class that the tables say can be made, by its rows of tables_1 -/
def lw_okq (q : MethodName × Nat) : Prop := (q.1.cls ≠ "java/lang/invoke/MethodHandle" ∧ q.1.cls ≠ "java/lang/invoke/VarHandle") ∧ Cond.instantiable q.1.cls q.2 ∈ tables_1 ∧ Cond.privateMethod q.1 ∈ tables_1 ∧ Cond.instanceMethod q.1 ∈ tables_1
theorem lw_p0 : lw_okq (⟨"CryGorge$Law", "emit", "(II)V"⟩, 5) := ⟨⟨by decide +kernel, by decide +kernel⟩, List.mem_of_getElem? (i := 130) (by decide +kernel), List.mem_of_getElem? (i := 140) (by decide +kernel), List.mem_of_getElem? (i := 141) (by decide +kernel)⟩
theorem lw_p1 : lw_okq (⟨"CryGorge", "putOnTape", "(I)V"⟩, 20) := ⟨⟨by decide +kernel, by decide +kernel⟩, List.mem_of_getElem? (i := 27) (by decide +kernel), List.mem_of_getElem? (i := 462) (by decide +kernel), List.mem_of_getElem? (i := 463) (by decide +kernel)⟩
theorem lw_p2 : lw_okq (⟨"CryGorge$Land", "heardBy", "(I)I"⟩, 10) := ⟨⟨by decide +kernel, by decide +kernel⟩, List.mem_of_getElem? (i := 64) (by decide +kernel), List.mem_of_getElem? (i := 499) (by decide +kernel), List.mem_of_getElem? (i := 500) (by decide +kernel)⟩
theorem lw_p3 : lw_okq (⟨"CryGorge", "openText", "(II)V"⟩, 20) := ⟨⟨by decide +kernel, by decide +kernel⟩, List.mem_of_getElem? (i := 27) (by decide +kernel), List.mem_of_getElem? (i := 565) (by decide +kernel), List.mem_of_getElem? (i := 566) (by decide +kernel)⟩
theorem lw_p4 : lw_okq (⟨"CryGorge", "checkArgument", "(Z)V"⟩, 20) := ⟨⟨by decide +kernel, by decide +kernel⟩, List.mem_of_getElem? (i := 27) (by decide +kernel), List.mem_of_getElem? (i := 569) (by decide +kernel), List.mem_of_getElem? (i := 570) (by decide +kernel)⟩
theorem lw_p5 : lw_okq (⟨"java/lang/Throwable", "fillInStackTrace", "(I)Ljava/lang/Throwable;"⟩, 6) := ⟨⟨by decide +kernel, by decide +kernel⟩, List.mem_of_getElem? (i := 610) (by decide +kernel), List.mem_of_getElem? (i := 608) (by decide +kernel), List.mem_of_getElem? (i := 609) (by decide +kernel)⟩
theorem lw_p6 : lw_okq (⟨"CryGorge$Land", "readClause", "(LCryGorge$Reader;Z)V"⟩, 10) := ⟨⟨by decide +kernel, by decide +kernel⟩, List.mem_of_getElem? (i := 64) (by decide +kernel), List.mem_of_getElem? (i := 665) (by decide +kernel), List.mem_of_getElem? (i := 666) (by decide +kernel)⟩
theorem lw_p7 : lw_okq (⟨"CryGorge$Land", "readBay", "(LCryGorge$Reader;Z)V"⟩, 10) := ⟨⟨by decide +kernel, by decide +kernel⟩, List.mem_of_getElem? (i := 64) (by decide +kernel), List.mem_of_getElem? (i := 726) (by decide +kernel), List.mem_of_getElem? (i := 727) (by decide +kernel)⟩
theorem lw_p8 : lw_okq (⟨"CryGorge$Land", "readCry", "(LCryGorge$Reader;Z)V"⟩, 10) := ⟨⟨by decide +kernel, by decide +kernel⟩, List.mem_of_getElem? (i := 64) (by decide +kernel), List.mem_of_getElem? (i := 748) (by decide +kernel), List.mem_of_getElem? (i := 749) (by decide +kernel)⟩
theorem lw_p9 : lw_okq (⟨"CryGorge$Land", "readPath", "(LCryGorge$Reader;Z)V"⟩, 10) := ⟨⟨by decide +kernel, by decide +kernel⟩, List.mem_of_getElem? (i := 64) (by decide +kernel), List.mem_of_getElem? (i := 753) (by decide +kernel), List.mem_of_getElem? (i := 754) (by decide +kernel)⟩
theorem lw_p10 : lw_okq (⟨"CryGorge$Land", "measure", "()V"⟩, 10) := ⟨⟨by decide +kernel, by decide +kernel⟩, List.mem_of_getElem? (i := 64) (by decide +kernel), List.mem_of_getElem? (i := 767) (by decide +kernel), List.mem_of_getElem? (i := 768) (by decide +kernel)⟩
theorem lw_p11 : lw_okq (⟨"CryGorge", "closeText", "()Z"⟩, 20) := ⟨⟨by decide +kernel, by decide +kernel⟩, List.mem_of_getElem? (i := 27) (by decide +kernel), List.mem_of_getElem? (i := 779) (by decide +kernel), List.mem_of_getElem? (i := 780) (by decide +kernel)⟩
theorem lw_p12 : lw_okq (⟨"CryGorge", "beginAnew", "()V"⟩, 20) := ⟨⟨by decide +kernel, by decide +kernel⟩, List.mem_of_getElem? (i := 27) (by decide +kernel), List.mem_of_getElem? (i := 797) (by decide +kernel), List.mem_of_getElem? (i := 798) (by decide +kernel)⟩
theorem lw_p13 : lw_okq (⟨"CryGorge$Law", "readSum", "(LCryGorge$Reader;)V"⟩, 5) := ⟨⟨by decide +kernel, by decide +kernel⟩, List.mem_of_getElem? (i := 130) (by decide +kernel), List.mem_of_getElem? (i := 822) (by decide +kernel), List.mem_of_getElem? (i := 823) (by decide +kernel)⟩
theorem lw_p14 : lw_okq (⟨"CryGorge$Law", "readProduct", "(LCryGorge$Reader;)V"⟩, 5) := ⟨⟨by decide +kernel, by decide +kernel⟩, List.mem_of_getElem? (i := 130) (by decide +kernel), List.mem_of_getElem? (i := 826) (by decide +kernel), List.mem_of_getElem? (i := 827) (by decide +kernel)⟩
theorem lw_p15 : lw_okq (⟨"CryGorge$Law", "readUnit", "(LCryGorge$Reader;)V"⟩, 5) := ⟨⟨by decide +kernel, by decide +kernel⟩, List.mem_of_getElem? (i := 130) (by decide +kernel), List.mem_of_getElem? (i := 830) (by decide +kernel), List.mem_of_getElem? (i := 831) (by decide +kernel)⟩
def lw_privs_1 : List (MethodName × Nat) := [(⟨"CryGorge$Law", "emit", "(II)V"⟩, 5), (⟨"CryGorge", "putOnTape", "(I)V"⟩, 20), (⟨"CryGorge$Land", "heardBy", "(I)I"⟩, 10), (⟨"CryGorge", "openText", "(II)V"⟩, 20), (⟨"CryGorge", "checkArgument", "(Z)V"⟩, 20), (⟨"java/lang/Throwable", "fillInStackTrace", "(I)Ljava/lang/Throwable;"⟩, 6), (⟨"CryGorge$Land", "readClause", "(LCryGorge$Reader;Z)V"⟩, 10), (⟨"CryGorge$Land", "readBay", "(LCryGorge$Reader;Z)V"⟩, 10), (⟨"CryGorge$Land", "readCry", "(LCryGorge$Reader;Z)V"⟩, 10), (⟨"CryGorge$Land", "readPath", "(LCryGorge$Reader;Z)V"⟩, 10), (⟨"CryGorge$Land", "measure", "()V"⟩, 10), (⟨"CryGorge", "closeText", "()Z"⟩, 20), (⟨"CryGorge", "beginAnew", "()V"⟩, 20), (⟨"CryGorge$Law", "readSum", "(LCryGorge$Reader;)V"⟩, 5), (⟨"CryGorge$Law", "readProduct", "(LCryGorge$Reader;)V"⟩, 5), (⟨"CryGorge$Law", "readUnit", "(LCryGorge$Reader;)V"⟩, 5)]
theorem lw_r1 : ∀ q ∈ lw_privs_1, lw_okq q := List.forall_mem_cons.mpr ⟨lw_p0, List.forall_mem_cons.mpr ⟨lw_p1, List.forall_mem_cons.mpr ⟨lw_p2, List.forall_mem_cons.mpr ⟨lw_p3, List.forall_mem_cons.mpr ⟨lw_p4, List.forall_mem_cons.mpr ⟨lw_p5, List.forall_mem_cons.mpr ⟨lw_p6, List.forall_mem_cons.mpr ⟨lw_p7, List.forall_mem_cons.mpr ⟨lw_p8, List.forall_mem_cons.mpr ⟨lw_p9, List.forall_mem_cons.mpr ⟨lw_p10, List.forall_mem_cons.mpr ⟨lw_p11, List.forall_mem_cons.mpr ⟨lw_p12, List.forall_mem_cons.mpr ⟨lw_p13, List.forall_mem_cons.mpr ⟨lw_p14, List.forall_mem_cons.mpr ⟨lw_p15, fun _ h => absurd h List.not_mem_nil⟩⟩⟩⟩⟩⟩⟩⟩⟩⟩⟩⟩⟩⟩⟩⟩
theorem lw_p16 : lw_okq (⟨"CryGorge$Law", "readTwo", "(LCryGorge$Reader;I)V"⟩, 5) := ⟨⟨by decide +kernel, by decide +kernel⟩, List.mem_of_getElem? (i := 130) (by decide +kernel), List.mem_of_getElem? (i := 854) (by decide +kernel), List.mem_of_getElem? (i := 855) (by decide +kernel)⟩
theorem lw_p17 : lw_okq (⟨"CryGorge$Work", "readSteps", "(LCryGorge$Reader;LCryGorge$Land;)V"⟩, 7) := ⟨⟨by decide +kernel, by decide +kernel⟩, List.mem_of_getElem? (i := 180) (by decide +kernel), List.mem_of_getElem? (i := 892) (by decide +kernel), List.mem_of_getElem? (i := 893) (by decide +kernel)⟩
theorem lw_p18 : lw_okq (⟨"CryGorge$Work", "readStep", "(LCryGorge$Reader;LCryGorge$Land;)V"⟩, 7) := ⟨⟨by decide +kernel, by decide +kernel⟩, List.mem_of_getElem? (i := 180) (by decide +kernel), List.mem_of_getElem? (i := 898) (by decide +kernel), List.mem_of_getElem? (i := 899) (by decide +kernel)⟩
theorem lw_p19 : lw_okq (⟨"CryGorge$Work", "emit", "(III)V"⟩, 7) := ⟨⟨by decide +kernel, by decide +kernel⟩, List.mem_of_getElem? (i := 180) (by decide +kernel), List.mem_of_getElem? (i := 906) (by decide +kernel), List.mem_of_getElem? (i := 907) (by decide +kernel)⟩
theorem lw_p20 : lw_okq (⟨"CryGorge$Work", "readAgain", "(LCryGorge$Reader;LCryGorge$Land;)V"⟩, 7) := ⟨⟨by decide +kernel, by decide +kernel⟩, List.mem_of_getElem? (i := 180) (by decide +kernel), List.mem_of_getElem? (i := 917) (by decide +kernel), List.mem_of_getElem? (i := 918) (by decide +kernel)⟩
theorem lw_p21 : lw_okq (⟨"CryGorge$Work", "afterEnd", "(I)I"⟩, 7) := ⟨⟨by decide +kernel, by decide +kernel⟩, List.mem_of_getElem? (i := 180) (by decide +kernel), List.mem_of_getElem? (i := 935) (by decide +kernel), List.mem_of_getElem? (i := 936) (by decide +kernel)⟩
theorem lw_p22 : lw_okq (⟨"CryGorge$Work", "afterAgain", "(I)I"⟩, 7) := ⟨⟨by decide +kernel, by decide +kernel⟩, List.mem_of_getElem? (i := 180) (by decide +kernel), List.mem_of_getElem? (i := 939) (by decide +kernel), List.mem_of_getElem? (i := 940) (by decide +kernel)⟩
theorem lw_p23 : lw_okq (⟨"CryGorge$Work", "afterStep", "(ILCryGorge$State;LCryGorge$Seasons;)I"⟩, 7) := ⟨⟨by decide +kernel, by decide +kernel⟩, List.mem_of_getElem? (i := 180) (by decide +kernel), List.mem_of_getElem? (i := 943) (by decide +kernel), List.mem_of_getElem? (i := 944) (by decide +kernel)⟩
theorem lw_p24 : lw_okq (⟨"CryGorge$Work", "isMade", "(ILCryGorge$State;)Z"⟩, 7) := ⟨⟨by decide +kernel, by decide +kernel⟩, List.mem_of_getElem? (i := 180) (by decide +kernel), List.mem_of_getElem? (i := 947) (by decide +kernel), List.mem_of_getElem? (i := 948) (by decide +kernel)⟩
theorem lw_p25 : lw_okq (⟨"CryGorge$Law", "valueOf", "(I)I"⟩, 5) := ⟨⟨by decide +kernel, by decide +kernel⟩, List.mem_of_getElem? (i := 130) (by decide +kernel), List.mem_of_getElem? (i := 1004) (by decide +kernel), List.mem_of_getElem? (i := 1005) (by decide +kernel)⟩
theorem lw_p26 : lw_okq (⟨"CryGorge", "checkBay", "(I)V"⟩, 20) := ⟨⟨by decide +kernel, by decide +kernel⟩, List.mem_of_getElem? (i := 27) (by decide +kernel), List.mem_of_getElem? (i := 1078) (by decide +kernel), List.mem_of_getElem? (i := 1079) (by decide +kernel)⟩
theorem lw_p27 : lw_okq (⟨"CryGorge", "checkElement", "(Z)V"⟩, 20) := ⟨⟨by decide +kernel, by decide +kernel⟩, List.mem_of_getElem? (i := 27) (by decide +kernel), List.mem_of_getElem? (i := 1083) (by decide +kernel), List.mem_of_getElem? (i := 1084) (by decide +kernel)⟩
theorem lw_p28 : lw_okq (⟨"CryGorge", "checkCry", "(I)V"⟩, 20) := ⟨⟨by decide +kernel, by decide +kernel⟩, List.mem_of_getElem? (i := 27) (by decide +kernel), List.mem_of_getElem? (i := 1112) (by decide +kernel), List.mem_of_getElem? (i := 1113) (by decide +kernel)⟩
theorem lw_p29 : lw_okq (⟨"CryGorge", "checkRange", "(III)V"⟩, 20) := ⟨⟨by decide +kernel, by decide +kernel⟩, List.mem_of_getElem? (i := 27) (by decide +kernel), List.mem_of_getElem? (i := 1125) (by decide +kernel), List.mem_of_getElem? (i := 1126) (by decide +kernel)⟩
theorem lw_p30 : lw_okq (⟨"CryGorge", "checkPlanned", "(I)V"⟩, 20) := ⟨⟨by decide +kernel, by decide +kernel⟩, List.mem_of_getElem? (i := 27) (by decide +kernel), List.mem_of_getElem? (i := 1163) (by decide +kernel), List.mem_of_getElem? (i := 1164) (by decide +kernel)⟩
theorem lw_p31 : lw_okq (⟨"CryGorge", "checkBits", "(II)V"⟩, 20) := ⟨⟨by decide +kernel, by decide +kernel⟩, List.mem_of_getElem? (i := 27) (by decide +kernel), List.mem_of_getElem? (i := 1167) (by decide +kernel), List.mem_of_getElem? (i := 1168) (by decide +kernel)⟩
def lw_privs_2 : List (MethodName × Nat) := [(⟨"CryGorge$Law", "readTwo", "(LCryGorge$Reader;I)V"⟩, 5), (⟨"CryGorge$Work", "readSteps", "(LCryGorge$Reader;LCryGorge$Land;)V"⟩, 7), (⟨"CryGorge$Work", "readStep", "(LCryGorge$Reader;LCryGorge$Land;)V"⟩, 7), (⟨"CryGorge$Work", "emit", "(III)V"⟩, 7), (⟨"CryGorge$Work", "readAgain", "(LCryGorge$Reader;LCryGorge$Land;)V"⟩, 7), (⟨"CryGorge$Work", "afterEnd", "(I)I"⟩, 7), (⟨"CryGorge$Work", "afterAgain", "(I)I"⟩, 7), (⟨"CryGorge$Work", "afterStep", "(ILCryGorge$State;LCryGorge$Seasons;)I"⟩, 7), (⟨"CryGorge$Work", "isMade", "(ILCryGorge$State;)Z"⟩, 7), (⟨"CryGorge$Law", "valueOf", "(I)I"⟩, 5), (⟨"CryGorge", "checkBay", "(I)V"⟩, 20), (⟨"CryGorge", "checkElement", "(Z)V"⟩, 20), (⟨"CryGorge", "checkCry", "(I)V"⟩, 20), (⟨"CryGorge", "checkRange", "(III)V"⟩, 20), (⟨"CryGorge", "checkPlanned", "(I)V"⟩, 20), (⟨"CryGorge", "checkBits", "(II)V"⟩, 20)]
theorem lw_r2 : ∀ q ∈ lw_privs_2, lw_okq q := List.forall_mem_cons.mpr ⟨lw_p16, List.forall_mem_cons.mpr ⟨lw_p17, List.forall_mem_cons.mpr ⟨lw_p18, List.forall_mem_cons.mpr ⟨lw_p19, List.forall_mem_cons.mpr ⟨lw_p20, List.forall_mem_cons.mpr ⟨lw_p21, List.forall_mem_cons.mpr ⟨lw_p22, List.forall_mem_cons.mpr ⟨lw_p23, List.forall_mem_cons.mpr ⟨lw_p24, List.forall_mem_cons.mpr ⟨lw_p25, List.forall_mem_cons.mpr ⟨lw_p26, List.forall_mem_cons.mpr ⟨lw_p27, List.forall_mem_cons.mpr ⟨lw_p28, List.forall_mem_cons.mpr ⟨lw_p29, List.forall_mem_cons.mpr ⟨lw_p30, List.forall_mem_cons.mpr ⟨lw_p31, fun _ h => absurd h List.not_mem_nil⟩⟩⟩⟩⟩⟩⟩⟩⟩⟩⟩⟩⟩⟩⟩⟩
theorem lw_p32 : lw_okq (⟨"CryGorge$Planner", "foresee", "(ILCryGorge$State;)V"⟩, 8) := ⟨⟨by decide +kernel, by decide +kernel⟩, List.mem_of_getElem? (i := 300) (by decide +kernel), List.mem_of_getElem? (i := 1175) (by decide +kernel), List.mem_of_getElem? (i := 1176) (by decide +kernel)⟩
theorem lw_p33 : lw_okq (⟨"CryGorge$Planner", "tryFrom", "(I)V"⟩, 8) := ⟨⟨by decide +kernel, by decide +kernel⟩, List.mem_of_getElem? (i := 300) (by decide +kernel), List.mem_of_getElem? (i := 1183) (by decide +kernel), List.mem_of_getElem? (i := 1184) (by decide +kernel)⟩
theorem lw_p34 : lw_okq (⟨"CryGorge$Planner", "judge", "()V"⟩, 8) := ⟨⟨by decide +kernel, by decide +kernel⟩, List.mem_of_getElem? (i := 300) (by decide +kernel), List.mem_of_getElem? (i := 1187) (by decide +kernel), List.mem_of_getElem? (i := 1188) (by decide +kernel)⟩
theorem lw_p35 : lw_okq (⟨"CryGorge$Guesses", "fits", "(IILCryGorge$Heard;)Z"⟩, 10) := ⟨⟨by decide +kernel, by decide +kernel⟩, List.mem_of_getElem? (i := 331) (by decide +kernel), List.mem_of_getElem? (i := 1214) (by decide +kernel), List.mem_of_getElem? (i := 1215) (by decide +kernel)⟩
theorem lw_p36 : lw_okq (⟨"CryGorge$Guesses", "yearLater", "(IIII)I"⟩, 10) := ⟨⟨by decide +kernel, by decide +kernel⟩, List.mem_of_getElem? (i := 331) (by decide +kernel), List.mem_of_getElem? (i := 1219) (by decide +kernel), List.mem_of_getElem? (i := 1220) (by decide +kernel)⟩
theorem lw_p37 : lw_okq (⟨"CryGorge$Guesses", "weigh", "(I)V"⟩, 10) := ⟨⟨by decide +kernel, by decide +kernel⟩, List.mem_of_getElem? (i := 331) (by decide +kernel), List.mem_of_getElem? (i := 1239) (by decide +kernel), List.mem_of_getElem? (i := 1240) (by decide +kernel)⟩
theorem lw_p38 : lw_okq (⟨"CryGorge$Guesses", "leftAtWorst", "()I"⟩, 10) := ⟨⟨by decide +kernel, by decide +kernel⟩, List.mem_of_getElem? (i := 331) (by decide +kernel), List.mem_of_getElem? (i := 1243) (by decide +kernel), List.mem_of_getElem? (i := 1244) (by decide +kernel)⟩
theorem lw_p39 : lw_okq (⟨"CryGorge$Land", "leastWalk", "(II)I"⟩, 10) := ⟨⟨by decide +kernel, by decide +kernel⟩, List.mem_of_getElem? (i := 64) (by decide +kernel), List.mem_of_getElem? (i := 1295) (by decide +kernel), List.mem_of_getElem? (i := 1296) (by decide +kernel)⟩
theorem lw_p40 : lw_okq (⟨"CryGorge", "checkFate", "(III)V"⟩, 20) := ⟨⟨by decide +kernel, by decide +kernel⟩, List.mem_of_getElem? (i := 27) (by decide +kernel), List.mem_of_getElem? (i := 1344) (by decide +kernel), List.mem_of_getElem? (i := 1345) (by decide +kernel)⟩
theorem lw_p41 : lw_okq (⟨"CryGorge$Century", "draw", "(I)I"⟩, 5) := ⟨⟨by decide +kernel, by decide +kernel⟩, List.mem_of_getElem? (i := 373) (by decide +kernel), List.mem_of_getElem? (i := 1352) (by decide +kernel), List.mem_of_getElem? (i := 1353) (by decide +kernel)⟩
theorem lw_p42 : lw_okq (⟨"CryGorgeModel", "tellsNothing", "()V"⟩, 50) := ⟨⟨by decide +kernel, by decide +kernel⟩, List.mem_of_getElem? (i := 1368) (by decide +kernel), List.mem_of_getElem? (i := 1375) (by decide +kernel), List.mem_of_getElem? (i := 1376) (by decide +kernel)⟩
theorem lw_p43 : lw_okq (⟨"CryGorgeModel", "beginsAnew", "()V"⟩, 50) := ⟨⟨by decide +kernel, by decide +kernel⟩, List.mem_of_getElem? (i := 1368) (by decide +kernel), List.mem_of_getElem? (i := 1379) (by decide +kernel), List.mem_of_getElem? (i := 1380) (by decide +kernel)⟩
theorem lw_p44 : lw_okq (⟨"CryGorgeModel", "laysFar", "()V"⟩, 50) := ⟨⟨by decide +kernel, by decide +kernel⟩, List.mem_of_getElem? (i := 1368) (by decide +kernel), List.mem_of_getElem? (i := 1386) (by decide +kernel), List.mem_of_getElem? (i := 1387) (by decide +kernel)⟩
theorem lw_p45 : lw_okq (⟨"CryGorgeModel", "bad", "(ZII)Z"⟩, 50) := ⟨⟨by decide +kernel, by decide +kernel⟩, List.mem_of_getElem? (i := 1368) (by decide +kernel), List.mem_of_getElem? (i := 1560) (by decide +kernel), List.mem_of_getElem? (i := 1561) (by decide +kernel)⟩
theorem lw_p46 : lw_okq (⟨"CryGorgeModel", "starts", "(I)V"⟩, 50) := ⟨⟨by decide +kernel, by decide +kernel⟩, List.mem_of_getElem? (i := 1368) (by decide +kernel), List.mem_of_getElem? (i := 1564) (by decide +kernel), List.mem_of_getElem? (i := 1565) (by decide +kernel)⟩
theorem lw_p47 : lw_okq (⟨"CryGorgeModel", "blanks", "()V"⟩, 50) := ⟨⟨by decide +kernel, by decide +kernel⟩, List.mem_of_getElem? (i := 1368) (by decide +kernel), List.mem_of_getElem? (i := 1568) (by decide +kernel), List.mem_of_getElem? (i := 1569) (by decide +kernel)⟩
def lw_privs_3 : List (MethodName × Nat) := [(⟨"CryGorge$Planner", "foresee", "(ILCryGorge$State;)V"⟩, 8), (⟨"CryGorge$Planner", "tryFrom", "(I)V"⟩, 8), (⟨"CryGorge$Planner", "judge", "()V"⟩, 8), (⟨"CryGorge$Guesses", "fits", "(IILCryGorge$Heard;)Z"⟩, 10), (⟨"CryGorge$Guesses", "yearLater", "(IIII)I"⟩, 10), (⟨"CryGorge$Guesses", "weigh", "(I)V"⟩, 10), (⟨"CryGorge$Guesses", "leftAtWorst", "()I"⟩, 10), (⟨"CryGorge$Land", "leastWalk", "(II)I"⟩, 10), (⟨"CryGorge", "checkFate", "(III)V"⟩, 20), (⟨"CryGorge$Century", "draw", "(I)I"⟩, 5), (⟨"CryGorgeModel", "tellsNothing", "()V"⟩, 50), (⟨"CryGorgeModel", "beginsAnew", "()V"⟩, 50), (⟨"CryGorgeModel", "laysFar", "()V"⟩, 50), (⟨"CryGorgeModel", "bad", "(ZII)Z"⟩, 50), (⟨"CryGorgeModel", "starts", "(I)V"⟩, 50), (⟨"CryGorgeModel", "blanks", "()V"⟩, 50)]
theorem lw_r3 : ∀ q ∈ lw_privs_3, lw_okq q := List.forall_mem_cons.mpr ⟨lw_p32, List.forall_mem_cons.mpr ⟨lw_p33, List.forall_mem_cons.mpr ⟨lw_p34, List.forall_mem_cons.mpr ⟨lw_p35, List.forall_mem_cons.mpr ⟨lw_p36, List.forall_mem_cons.mpr ⟨lw_p37, List.forall_mem_cons.mpr ⟨lw_p38, List.forall_mem_cons.mpr ⟨lw_p39, List.forall_mem_cons.mpr ⟨lw_p40, List.forall_mem_cons.mpr ⟨lw_p41, List.forall_mem_cons.mpr ⟨lw_p42, List.forall_mem_cons.mpr ⟨lw_p43, List.forall_mem_cons.mpr ⟨lw_p44, List.forall_mem_cons.mpr ⟨lw_p45, List.forall_mem_cons.mpr ⟨lw_p46, List.forall_mem_cons.mpr ⟨lw_p47, fun _ h => absurd h List.not_mem_nil⟩⟩⟩⟩⟩⟩⟩⟩⟩⟩⟩⟩⟩⟩⟩⟩
theorem lw_p48 : lw_okq (⟨"CryGorgeModel", "byteAt", "(I)I"⟩, 50) := ⟨⟨by decide +kernel, by decide +kernel⟩, List.mem_of_getElem? (i := 1368) (by decide +kernel), List.mem_of_getElem? (i := 1572) (by decide +kernel), List.mem_of_getElem? (i := 1573) (by decide +kernel)⟩
theorem lw_p49 : lw_okq (⟨"CryGorgeModel", "clause", "()V"⟩, 50) := ⟨⟨by decide +kernel, by decide +kernel⟩, List.mem_of_getElem? (i := 1368) (by decide +kernel), List.mem_of_getElem? (i := 1576) (by decide +kernel), List.mem_of_getElem? (i := 1577) (by decide +kernel)⟩
theorem lw_p50 : lw_okq (⟨"CryGorgeModel", "kindHere", "()I"⟩, 50) := ⟨⟨by decide +kernel, by decide +kernel⟩, List.mem_of_getElem? (i := 1368) (by decide +kernel), List.mem_of_getElem? (i := 1580) (by decide +kernel), List.mem_of_getElem? (i := 1581) (by decide +kernel)⟩
theorem lw_p51 : lw_okq (⟨"CryGorgeModel", "isWord", "(IIIIII)Z"⟩, 50) := ⟨⟨by decide +kernel, by decide +kernel⟩, List.mem_of_getElem? (i := 1368) (by decide +kernel), List.mem_of_getElem? (i := 1584) (by decide +kernel), List.mem_of_getElem? (i := 1585) (by decide +kernel)⟩
theorem lw_p52 : lw_okq (⟨"CryGorgeModel", "wordHere", "()I"⟩, 50) := ⟨⟨by decide +kernel, by decide +kernel⟩, List.mem_of_getElem? (i := 1368) (by decide +kernel), List.mem_of_getElem? (i := 1588) (by decide +kernel), List.mem_of_getElem? (i := 1589) (by decide +kernel)⟩
theorem lw_p53 : lw_okq (⟨"CryGorgeModel", "wrong", "(II)V"⟩, 50) := ⟨⟨by decide +kernel, by decide +kernel⟩, List.mem_of_getElem? (i := 1368) (by decide +kernel), List.mem_of_getElem? (i := 1598) (by decide +kernel), List.mem_of_getElem? (i := 1599) (by decide +kernel)⟩
theorem lw_p54 : lw_okq (⟨"CryGorgeModel", "skipWord", "()V"⟩, 50) := ⟨⟨by decide +kernel, by decide +kernel⟩, List.mem_of_getElem? (i := 1368) (by decide +kernel), List.mem_of_getElem? (i := 1602) (by decide +kernel), List.mem_of_getElem? (i := 1603) (by decide +kernel)⟩
theorem lw_p55 : lw_okq (⟨"CryGorgeModel", "number", "(II)I"⟩, 50) := ⟨⟨by decide +kernel, by decide +kernel⟩, List.mem_of_getElem? (i := 1368) (by decide +kernel), List.mem_of_getElem? (i := 1606) (by decide +kernel), List.mem_of_getElem? (i := 1607) (by decide +kernel)⟩
theorem lw_p56 : lw_okq (⟨"CryGorgeModel", "sign", "(I)V"⟩, 50) := ⟨⟨by decide +kernel, by decide +kernel⟩, List.mem_of_getElem? (i := 1368) (by decide +kernel), List.mem_of_getElem? (i := 1613) (by decide +kernel), List.mem_of_getElem? (i := 1614) (by decide +kernel)⟩
theorem lw_p57 : lw_okq (⟨"CryGorgeModel", "ends", "()I"⟩, 50) := ⟨⟨by decide +kernel, by decide +kernel⟩, List.mem_of_getElem? (i := 1368) (by decide +kernel), List.mem_of_getElem? (i := 1617) (by decide +kernel), List.mem_of_getElem? (i := 1618) (by decide +kernel)⟩
theorem lw_p58 : lw_okq (⟨"CryGorgeModel", "sum", "()V"⟩, 50) := ⟨⟨by decide +kernel, by decide +kernel⟩, List.mem_of_getElem? (i := 1368) (by decide +kernel), List.mem_of_getElem? (i := 1625) (by decide +kernel), List.mem_of_getElem? (i := 1626) (by decide +kernel)⟩
theorem lw_p59 : lw_okq (⟨"CryGorgeModel", "product", "()V"⟩, 50) := ⟨⟨by decide +kernel, by decide +kernel⟩, List.mem_of_getElem? (i := 1368) (by decide +kernel), List.mem_of_getElem? (i := 1629) (by decide +kernel), List.mem_of_getElem? (i := 1630) (by decide +kernel)⟩
theorem lw_p60 : lw_okq (⟨"CryGorgeModel", "one", "()V"⟩, 50) := ⟨⟨by decide +kernel, by decide +kernel⟩, List.mem_of_getElem? (i := 1368) (by decide +kernel), List.mem_of_getElem? (i := 1633) (by decide +kernel), List.mem_of_getElem? (i := 1634) (by decide +kernel)⟩
theorem lw_p61 : lw_okq (⟨"CryGorgeModel", "opensOne", "()Z"⟩, 50) := ⟨⟨by decide +kernel, by decide +kernel⟩, List.mem_of_getElem? (i := 1368) (by decide +kernel), List.mem_of_getElem? (i := 1637) (by decide +kernel), List.mem_of_getElem? (i := 1638) (by decide +kernel)⟩
theorem lw_p62 : lw_okq (⟨"CryGorgeModel", "notes", "(II)V"⟩, 50) := ⟨⟨by decide +kernel, by decide +kernel⟩, List.mem_of_getElem? (i := 1368) (by decide +kernel), List.mem_of_getElem? (i := 1641) (by decide +kernel), List.mem_of_getElem? (i := 1642) (by decide +kernel)⟩
theorem lw_p63 : lw_okq (⟨"CryGorgeModel", "knownHere", "()I"⟩, 50) := ⟨⟨by decide +kernel, by decide +kernel⟩, List.mem_of_getElem? (i := 1368) (by decide +kernel), List.mem_of_getElem? (i := 1645) (by decide +kernel), List.mem_of_getElem? (i := 1646) (by decide +kernel)⟩
def lw_privs_4 : List (MethodName × Nat) := [(⟨"CryGorgeModel", "byteAt", "(I)I"⟩, 50), (⟨"CryGorgeModel", "clause", "()V"⟩, 50), (⟨"CryGorgeModel", "kindHere", "()I"⟩, 50), (⟨"CryGorgeModel", "isWord", "(IIIIII)Z"⟩, 50), (⟨"CryGorgeModel", "wordHere", "()I"⟩, 50), (⟨"CryGorgeModel", "wrong", "(II)V"⟩, 50), (⟨"CryGorgeModel", "skipWord", "()V"⟩, 50), (⟨"CryGorgeModel", "number", "(II)I"⟩, 50), (⟨"CryGorgeModel", "sign", "(I)V"⟩, 50), (⟨"CryGorgeModel", "ends", "()I"⟩, 50), (⟨"CryGorgeModel", "sum", "()V"⟩, 50), (⟨"CryGorgeModel", "product", "()V"⟩, 50), (⟨"CryGorgeModel", "one", "()V"⟩, 50), (⟨"CryGorgeModel", "opensOne", "()Z"⟩, 50), (⟨"CryGorgeModel", "notes", "(II)V"⟩, 50), (⟨"CryGorgeModel", "knownHere", "()I"⟩, 50)]
theorem lw_r4 : ∀ q ∈ lw_privs_4, lw_okq q := List.forall_mem_cons.mpr ⟨lw_p48, List.forall_mem_cons.mpr ⟨lw_p49, List.forall_mem_cons.mpr ⟨lw_p50, List.forall_mem_cons.mpr ⟨lw_p51, List.forall_mem_cons.mpr ⟨lw_p52, List.forall_mem_cons.mpr ⟨lw_p53, List.forall_mem_cons.mpr ⟨lw_p54, List.forall_mem_cons.mpr ⟨lw_p55, List.forall_mem_cons.mpr ⟨lw_p56, List.forall_mem_cons.mpr ⟨lw_p57, List.forall_mem_cons.mpr ⟨lw_p58, List.forall_mem_cons.mpr ⟨lw_p59, List.forall_mem_cons.mpr ⟨lw_p60, List.forall_mem_cons.mpr ⟨lw_p61, List.forall_mem_cons.mpr ⟨lw_p62, List.forall_mem_cons.mpr ⟨lw_p63, fun _ h => absurd h List.not_mem_nil⟩⟩⟩⟩⟩⟩⟩⟩⟩⟩⟩⟩⟩⟩⟩⟩
theorem lw_p64 : lw_okq (⟨"CryGorgeModel", "takes", "(IIIIII)Z"⟩, 50) := ⟨⟨by decide +kernel, by decide +kernel⟩, List.mem_of_getElem? (i := 1368) (by decide +kernel), List.mem_of_getElem? (i := 1649) (by decide +kernel), List.mem_of_getElem? (i := 1650) (by decide +kernel)⟩
theorem lw_p65 : lw_okq (⟨"CryGorgeModel", "isStrength", "()Z"⟩, 50) := ⟨⟨by decide +kernel, by decide +kernel⟩, List.mem_of_getElem? (i := 1368) (by decide +kernel), List.mem_of_getElem? (i := 1653) (by decide +kernel), List.mem_of_getElem? (i := 1654) (by decide +kernel)⟩
theorem lw_p66 : lw_okq (⟨"CryGorgeModel", "takesSign", "(I)Z"⟩, 50) := ⟨⟨by decide +kernel, by decide +kernel⟩, List.mem_of_getElem? (i := 1368) (by decide +kernel), List.mem_of_getElem? (i := 1657) (by decide +kernel), List.mem_of_getElem? (i := 1658) (by decide +kernel)⟩
theorem lw_p67 : lw_okq (⟨"CryGorgeModel", "readsStep", "()V"⟩, 50) := ⟨⟨by decide +kernel, by decide +kernel⟩, List.mem_of_getElem? (i := 1368) (by decide +kernel), List.mem_of_getElem? (i := 1673) (by decide +kernel), List.mem_of_getElem? (i := 1674) (by decide +kernel)⟩
theorem lw_p68 : lw_okq (⟨"CryGorgeModel", "stepHere", "()I"⟩, 50) := ⟨⟨by decide +kernel, by decide +kernel⟩, List.mem_of_getElem? (i := 1368) (by decide +kernel), List.mem_of_getElem? (i := 1677) (by decide +kernel), List.mem_of_getElem? (i := 1678) (by decide +kernel)⟩
theorem lw_p69 : lw_okq (⟨"CryGorgeModel", "goes", "(II)V"⟩, 50) := ⟨⟨by decide +kernel, by decide +kernel⟩, List.mem_of_getElem? (i := 1368) (by decide +kernel), List.mem_of_getElem? (i := 1684) (by decide +kernel), List.mem_of_getElem? (i := 1685) (by decide +kernel)⟩
theorem lw_p70 : lw_okq (⟨"CryGorgeModel", "does", "([I[I)Z"⟩, 50) := ⟨⟨by decide +kernel, by decide +kernel⟩, List.mem_of_getElem? (i := 1368) (by decide +kernel), List.mem_of_getElem? (i := 1688) (by decide +kernel), List.mem_of_getElem? (i := 1689) (by decide +kernel)⟩
theorem lw_p71 : lw_okq (⟨"CryGorgeModel", "heldIn", "([II)I"⟩, 50) := ⟨⟨by decide +kernel, by decide +kernel⟩, List.mem_of_getElem? (i := 1368) (by decide +kernel), List.mem_of_getElem? (i := 1692) (by decide +kernel), List.mem_of_getElem? (i := 1693) (by decide +kernel)⟩
theorem lw_p72 : lw_okq (⟨"CryGorgeModel", "isGrown", "([II)Z"⟩, 50) := ⟨⟨by decide +kernel, by decide +kernel⟩, List.mem_of_getElem? (i := 1368) (by decide +kernel), List.mem_of_getElem? (i := 1702) (by decide +kernel), List.mem_of_getElem? (i := 1703) (by decide +kernel)⟩
theorem lw_p73 : lw_okq (⟨"CryGorgeModel", "yearEnds", "([I)V"⟩, 50) := ⟨⟨by decide +kernel, by decide +kernel⟩, List.mem_of_getElem? (i := 1368) (by decide +kernel), List.mem_of_getElem? (i := 1706) (by decide +kernel), List.mem_of_getElem? (i := 1707) (by decide +kernel)⟩
theorem lw_p74 : lw_okq (⟨"CryGorgeModel", "loses", "([II)I"⟩, 50) := ⟨⟨by decide +kernel, by decide +kernel⟩, List.mem_of_getElem? (i := 1368) (by decide +kernel), List.mem_of_getElem? (i := 1710) (by decide +kernel), List.mem_of_getElem? (i := 1711) (by decide +kernel)⟩
theorem lw_p75 : lw_okq (⟨"CryGorgeModel", "matesOf", "([II)I"⟩, 50) := ⟨⟨by decide +kernel, by decide +kernel⟩, List.mem_of_getElem? (i := 1368) (by decide +kernel), List.mem_of_getElem? (i := 1714) (by decide +kernel), List.mem_of_getElem? (i := 1715) (by decide +kernel)⟩
theorem lw_p76 : lw_okq (⟨"CryGorgeModel", "losesIn", "([IIIIIII)I"⟩, 50) := ⟨⟨by decide +kernel, by decide +kernel⟩, List.mem_of_getElem? (i := 1368) (by decide +kernel), List.mem_of_getElem? (i := 1718) (by decide +kernel), List.mem_of_getElem? (i := 1719) (by decide +kernel)⟩
theorem lw_p77 : lw_okq (⟨"CryGorgeModel", "fadesBy", "(IIIIIIII)I"⟩, 50) := ⟨⟨by decide +kernel, by decide +kernel⟩, List.mem_of_getElem? (i := 1368) (by decide +kernel), List.mem_of_getElem? (i := 1722) (by decide +kernel), List.mem_of_getElem? (i := 1723) (by decide +kernel)⟩
theorem lw_p78 : lw_okq (⟨"CryGorgeModel", "byLaw", "()I"⟩, 50) := ⟨⟨by decide +kernel, by decide +kernel⟩, List.mem_of_getElem? (i := 1368) (by decide +kernel), List.mem_of_getElem? (i := 1726) (by decide +kernel), List.mem_of_getElem? (i := 1727) (by decide +kernel)⟩
theorem lw_p79 : lw_okq (⟨"CryGorgeModel", "goneIn", "([I)I"⟩, 50) := ⟨⟨by decide +kernel, by decide +kernel⟩, List.mem_of_getElem? (i := 1368) (by decide +kernel), List.mem_of_getElem? (i := 1744) (by decide +kernel), List.mem_of_getElem? (i := 1745) (by decide +kernel)⟩
def lw_privs_5 : List (MethodName × Nat) := [(⟨"CryGorgeModel", "takes", "(IIIIII)Z"⟩, 50), (⟨"CryGorgeModel", "isStrength", "()Z"⟩, 50), (⟨"CryGorgeModel", "takesSign", "(I)Z"⟩, 50), (⟨"CryGorgeModel", "readsStep", "()V"⟩, 50), (⟨"CryGorgeModel", "stepHere", "()I"⟩, 50), (⟨"CryGorgeModel", "goes", "(II)V"⟩, 50), (⟨"CryGorgeModel", "does", "([I[I)Z"⟩, 50), (⟨"CryGorgeModel", "heldIn", "([II)I"⟩, 50), (⟨"CryGorgeModel", "isGrown", "([II)Z"⟩, 50), (⟨"CryGorgeModel", "yearEnds", "([I)V"⟩, 50), (⟨"CryGorgeModel", "loses", "([II)I"⟩, 50), (⟨"CryGorgeModel", "matesOf", "([II)I"⟩, 50), (⟨"CryGorgeModel", "losesIn", "([IIIIIII)I"⟩, 50), (⟨"CryGorgeModel", "fadesBy", "(IIIIIIII)I"⟩, 50), (⟨"CryGorgeModel", "byLaw", "()I"⟩, 50), (⟨"CryGorgeModel", "goneIn", "([I)I"⟩, 50)]
theorem lw_r5 : ∀ q ∈ lw_privs_5, lw_okq q := List.forall_mem_cons.mpr ⟨lw_p64, List.forall_mem_cons.mpr ⟨lw_p65, List.forall_mem_cons.mpr ⟨lw_p66, List.forall_mem_cons.mpr ⟨lw_p67, List.forall_mem_cons.mpr ⟨lw_p68, List.forall_mem_cons.mpr ⟨lw_p69, List.forall_mem_cons.mpr ⟨lw_p70, List.forall_mem_cons.mpr ⟨lw_p71, List.forall_mem_cons.mpr ⟨lw_p72, List.forall_mem_cons.mpr ⟨lw_p73, List.forall_mem_cons.mpr ⟨lw_p74, List.forall_mem_cons.mpr ⟨lw_p75, List.forall_mem_cons.mpr ⟨lw_p76, List.forall_mem_cons.mpr ⟨lw_p77, List.forall_mem_cons.mpr ⟨lw_p78, List.forall_mem_cons.mpr ⟨lw_p79, fun _ h => absurd h List.not_mem_nil⟩⟩⟩⟩⟩⟩⟩⟩⟩⟩⟩⟩⟩⟩⟩⟩
theorem lw_p80 : lw_okq (⟨"CryGorgeModel", "strongIn", "([I)I"⟩, 50) := ⟨⟨by decide +kernel, by decide +kernel⟩, List.mem_of_getElem? (i := 1368) (by decide +kernel), List.mem_of_getElem? (i := 1748) (by decide +kernel), List.mem_of_getElem? (i := 1749) (by decide +kernel)⟩
theorem lw_p81 : lw_okq (⟨"CryGorgeModel", "isBay", "(I)Z"⟩, 50) := ⟨⟨by decide +kernel, by decide +kernel⟩, List.mem_of_getElem? (i := 1368) (by decide +kernel), List.mem_of_getElem? (i := 1756) (by decide +kernel), List.mem_of_getElem? (i := 1757) (by decide +kernel)⟩
theorem lw_p82 : lw_okq (⟨"CryGorgeModel", "pathsOf", "(I)I"⟩, 50) := ⟨⟨by decide +kernel, by decide +kernel⟩, List.mem_of_getElem? (i := 1368) (by decide +kernel), List.mem_of_getElem? (i := 1760) (by decide +kernel), List.mem_of_getElem? (i := 1761) (by decide +kernel)⟩
theorem lw_p83 : lw_okq (⟨"CryGorgeModel", "isCry", "(I)Z"⟩, 50) := ⟨⟨by decide +kernel, by decide +kernel⟩, List.mem_of_getElem? (i := 1368) (by decide +kernel), List.mem_of_getElem? (i := 1768) (by decide +kernel), List.mem_of_getElem? (i := 1769) (by decide +kernel)⟩
theorem lw_p84 : lw_okq (⟨"CryGorgeModel", "areCries", "(I)Z"⟩, 50) := ⟨⟨by decide +kernel, by decide +kernel⟩, List.mem_of_getElem? (i := 1368) (by decide +kernel), List.mem_of_getElem? (i := 1792) (by decide +kernel), List.mem_of_getElem? (i := 1793) (by decide +kernel)⟩
theorem lw_p85 : lw_okq (⟨"CryGorgeModel", "plans", "(I)V"⟩, 50) := ⟨⟨by decide +kernel, by decide +kernel⟩, List.mem_of_getElem? (i := 1368) (by decide +kernel), List.mem_of_getElem? (i := 1799) (by decide +kernel), List.mem_of_getElem? (i := 1800) (by decide +kernel)⟩
theorem lw_p86 : lw_okq (⟨"CryGorgeModel", "keepsFrom", "(II)V"⟩, 50) := ⟨⟨by decide +kernel, by decide +kernel⟩, List.mem_of_getElem? (i := 1368) (by decide +kernel), List.mem_of_getElem? (i := 1803) (by decide +kernel), List.mem_of_getElem? (i := 1804) (by decide +kernel)⟩
theorem lw_p87 : lw_okq (⟨"CryGorgeModel", "isHeard", "(II)Z"⟩, 50) := ⟨⟨by decide +kernel, by decide +kernel⟩, List.mem_of_getElem? (i := 1368) (by decide +kernel), List.mem_of_getElem? (i := 1818) (by decide +kernel), List.mem_of_getElem? (i := 1819) (by decide +kernel)⟩
theorem lw_p88 : lw_okq (⟨"CryGorgeModel", "strongAt", "(III)I"⟩, 50) := ⟨⟨by decide +kernel, by decide +kernel⟩, List.mem_of_getElem? (i := 1368) (by decide +kernel), List.mem_of_getElem? (i := 1822) (by decide +kernel), List.mem_of_getElem? (i := 1823) (by decide +kernel)⟩
theorem lw_p89 : lw_okq (⟨"CryGorgeModel", "isTold", "(I)Z"⟩, 50) := ⟨⟨by decide +kernel, by decide +kernel⟩, List.mem_of_getElem? (i := 1368) (by decide +kernel), List.mem_of_getElem? (i := 1830) (by decide +kernel), List.mem_of_getElem? (i := 1831) (by decide +kernel)⟩
theorem lw_p90 : lw_okq (⟨"CryGorgeModel", "apart", "(II)I"⟩, 50) := ⟨⟨by decide +kernel, by decide +kernel⟩, List.mem_of_getElem? (i := 1368) (by decide +kernel), List.mem_of_getElem? (i := 1838) (by decide +kernel), List.mem_of_getElem? (i := 1839) (by decide +kernel)⟩
theorem lw_p91 : lw_okq (⟨"CryGorgeModel", "givenBy", "(II)I"⟩, 50) := ⟨⟨by decide +kernel, by decide +kernel⟩, List.mem_of_getElem? (i := 1368) (by decide +kernel), List.mem_of_getElem? (i := 1876) (by decide +kernel), List.mem_of_getElem? (i := 1877) (by decide +kernel)⟩
theorem lw_p92 : lw_okq (⟨"CryGorgeModel", "centuryBy", "(IIII)V"⟩, 50) := ⟨⟨by decide +kernel, by decide +kernel⟩, List.mem_of_getElem? (i := 1368) (by decide +kernel), List.mem_of_getElem? (i := 1903) (by decide +kernel), List.mem_of_getElem? (i := 1904) (by decide +kernel)⟩
theorem lw_p93 : lw_okq (⟨"CryGorgeModel", "draw", "(I)I"⟩, 50) := ⟨⟨by decide +kernel, by decide +kernel⟩, List.mem_of_getElem? (i := 1368) (by decide +kernel), List.mem_of_getElem? (i := 1907) (by decide +kernel), List.mem_of_getElem? (i := 1908) (by decide +kernel)⟩
theorem lw_p94 : lw_okq (⟨"CryGorgeModel", "putsAll", "([IZ)V"⟩, 50) := ⟨⟨by decide +kernel, by decide +kernel⟩, List.mem_of_getElem? (i := 1368) (by decide +kernel), List.mem_of_getElem? (i := 1920) (by decide +kernel), List.mem_of_getElem? (i := 1921) (by decide +kernel)⟩
theorem lw_p95 : lw_okq (⟨"CryGorgeModel", "puts", "([IIZ)I"⟩, 50) := ⟨⟨by decide +kernel, by decide +kernel⟩, List.mem_of_getElem? (i := 1368) (by decide +kernel), List.mem_of_getElem? (i := 1924) (by decide +kernel), List.mem_of_getElem? (i := 1925) (by decide +kernel)⟩
def lw_privs_6 : List (MethodName × Nat) := [(⟨"CryGorgeModel", "strongIn", "([I)I"⟩, 50), (⟨"CryGorgeModel", "isBay", "(I)Z"⟩, 50), (⟨"CryGorgeModel", "pathsOf", "(I)I"⟩, 50), (⟨"CryGorgeModel", "isCry", "(I)Z"⟩, 50), (⟨"CryGorgeModel", "areCries", "(I)Z"⟩, 50), (⟨"CryGorgeModel", "plans", "(I)V"⟩, 50), (⟨"CryGorgeModel", "keepsFrom", "(II)V"⟩, 50), (⟨"CryGorgeModel", "isHeard", "(II)Z"⟩, 50), (⟨"CryGorgeModel", "strongAt", "(III)I"⟩, 50), (⟨"CryGorgeModel", "isTold", "(I)Z"⟩, 50), (⟨"CryGorgeModel", "apart", "(II)I"⟩, 50), (⟨"CryGorgeModel", "givenBy", "(II)I"⟩, 50), (⟨"CryGorgeModel", "centuryBy", "(IIII)V"⟩, 50), (⟨"CryGorgeModel", "draw", "(I)I"⟩, 50), (⟨"CryGorgeModel", "putsAll", "([IZ)V"⟩, 50), (⟨"CryGorgeModel", "puts", "([IIZ)I"⟩, 50)]
theorem lw_r6 : ∀ q ∈ lw_privs_6, lw_okq q := List.forall_mem_cons.mpr ⟨lw_p80, List.forall_mem_cons.mpr ⟨lw_p81, List.forall_mem_cons.mpr ⟨lw_p82, List.forall_mem_cons.mpr ⟨lw_p83, List.forall_mem_cons.mpr ⟨lw_p84, List.forall_mem_cons.mpr ⟨lw_p85, List.forall_mem_cons.mpr ⟨lw_p86, List.forall_mem_cons.mpr ⟨lw_p87, List.forall_mem_cons.mpr ⟨lw_p88, List.forall_mem_cons.mpr ⟨lw_p89, List.forall_mem_cons.mpr ⟨lw_p90, List.forall_mem_cons.mpr ⟨lw_p91, List.forall_mem_cons.mpr ⟨lw_p92, List.forall_mem_cons.mpr ⟨lw_p93, List.forall_mem_cons.mpr ⟨lw_p94, List.forall_mem_cons.mpr ⟨lw_p95, fun _ h => absurd h List.not_mem_nil⟩⟩⟩⟩⟩⟩⟩⟩⟩⟩⟩⟩⟩⟩⟩⟩
def lw_privs : List (MethodName × Nat) := lw_privs_1 ++ (lw_privs_2 ++ (lw_privs_3 ++ (lw_privs_4 ++ (lw_privs_5 ++ (lw_privs_6)))))
def lw_tbl : List Cond := k2_sels lw_privs ++ tables_1
theorem lw_privs_ok : ∀ q ∈ lw_privs, lw_okq q := by
  show ∀ q ∈ lw_privs_1 ++ (lw_privs_2 ++ (lw_privs_3 ++ (lw_privs_4 ++ (lw_privs_5 ++ (lw_privs_6))))), lw_okq q
  exact List.forall_mem_append.mpr ⟨lw_r1, List.forall_mem_append.mpr ⟨lw_r2, List.forall_mem_append.mpr ⟨lw_r3, List.forall_mem_append.mpr ⟨lw_r4, List.forall_mem_append.mpr ⟨lw_r5, lw_r6⟩⟩⟩⟩⟩
end
section
def va_AOA (t : FieldType) (U : State) : Prop := (Cond.arrayOver (.array t)).before #[] U = true
theorem va_AOA.use {t : FieldType} {A : Array Value} {U : State} (h : va_AOA t U) : (Cond.arrayOver (.array t)).before A U = true := h

theorem goodIn_r {big : List Cond} (ws : List Cond) (ps : List Nat) (hp : ws = ps.filterMap (fun i => big[i]?)) (h : ws.all goodWord = true) : GoodIn big ws := by
  intro w hw
  have h1 := List.all_eq_true.mp h w hw
  rw [hp] at hw
  obtain ⟨i, -, hi⟩ := List.mem_filterMap.mp hw
  have hm : w ∈ big := by first | exact List.mem_of_getElem? hi | exact List.getElem?_mem hi
  exact ⟨hm, good_of_word h1⟩
theorem goodIn_app {big a b : List Cond} (ha : GoodIn big a) (hb : GoodIn big b) : GoodIn big (a ++ b) := fun w h => (List.mem_append.mp h).elim (ha w) (hb w)
theorem goodIn_ca {big a b : List Cond} {c : Cond} (ha : GoodIn big (c :: a)) (hb : GoodIn big b) : GoodIn big (c :: (a ++ b)) := fun w h => (List.mem_cons.mp h).elim (fun e => ha w (List.mem_cons.mpr (Or.inl e))) (fun h => (List.mem_append.mp h).elim (fun h => ha w (List.mem_cons.mpr (Or.inr h))) (hb w))
theorem goodIn_sub {big ws : List Cond} (hm : ∀ w ∈ ws, w ∈ big) (h : ws.all goodWord = true) : GoodIn big ws := fun w hw => ⟨hm w hw, good_of_word (List.all_eq_true.mp h w hw)⟩
def vr_up {α : Type} (f : Nat → α) (l : List Nat) (v : α) : Nat → α := fun a => if a ∈ l then v else f a
theorem vr_up_in {α : Type} {f : Nat → α} {l : List Nat} {v : α} {a : Nat} (h : a ∈ l) : vr_up f l v a = v := if_pos h
theorem vr_up_ne {α : Type} {f : Nat → α} {l : List Nat} {v : α} {a : Nat} (h : a ∉ l) : vr_up f l v a = f a := if_neg h
theorem vr_rows {L l : List Nat} {f : Nat → va_E} {e : va_E} (h : ∀ a, a ∈ l → a ∉ L) : va_pl L f ++ l.map (fun a => (a, e)) = va_pl (L ++ l) (vr_up f l e) := by
  unfold va_pl
  rw [List.map_append]
  congr 1
  · apply List.map_congr_left
    intro a ha
    rw [vr_up_ne (fun q => h a q ha)]
  · apply List.map_congr_left
    intro a ha
    rw [vr_up_in ha]
theorem vr_lay {X rows : va_W} {x : Nat × va_E} {pl : va_W} {D : va_G} {cl : List vw_C} {H : Heap} (hP : va_P D cl (((X ++ pl) ++ [x]) ++ rows) H) : va_P D cl ((X ++ [x]) ++ (pl ++ rows)) H := by
  rw [List.append_assoc (X ++ pl)] at hP
  have h := va_P.swap hP
  rw [← List.append_assoc X] at h
  have h2 := va_P.swap h
  rw [List.append_assoc (X ++ [x])] at h2
  exact h2
theorem vr_layD {X rows : va_W} {x : Nat × va_E} {pl : va_W} {A : Nat → Prop} (hD : va_D A (((X ++ pl) ++ [x]) ++ rows)) : va_D A ((X ++ [x]) ++ (pl ++ rows)) := by
  rw [List.append_assoc (X ++ pl)] at hD
  have h := va_D.swap hD
  rw [← List.append_assoc X] at h
  have h2 := va_D.swap h
  rw [List.append_assoc (X ++ [x])] at h2
  exact h2
theorem vr_outer (c : ClassId) (N h0 : Nat) : ∀ i : Nat, Jvm.Free.Multi.outerC c N h0 i = arrV c N (fun j => va_rf (if j < i then some (h0 + 1 + j) else none))
  | 0 => by
    show ({ cls := c, slots := Array.replicate N .null, vm := .none } : Cell) = _
    rw [arrV_new]
    refine congrArg (arrV c N) (funext fun j => ?_)
    simp [va_rf]
  | i + 1 => by
    show (Jvm.Free.Multi.outerC c N h0 i).setSlot i (.ref (h0 + 1 + i)) = _
    rw [vr_outer c N h0 i, arrV_store]
    refine congrArg (arrV c N) (funext fun j => ?_)
    by_cases e : j = i
    · subst e
      simp [updV, va_rf]
    · by_cases h : j < i
      · simp [updV, e, h, Nat.lt_succ_of_lt h]
      · simp [updV, e, h, show ¬ j < i + 1 by omega]
section VGM
variable {p : Program} {l : Launch} {e : Env} {R : Room} {s : State} {m : MethodId} {args : Array Value} {below : List Frame} {meth : Method} {c : Code} {H : Heap} {locs : List Loc} {cells slots : Nat} {Q : State → Prop}
variable {cc : ByteArray} {pc : Nat} {ls : Array Slot} {rest : List Value} {D : va_G} {cl : List vw_C} {A : Nat → Prop} {a : Nat} {tys : List (ClassId × FieldType)} {ws : va_W} {H0 : Heap}
theorem va_mna {X : va_W} {L : List Nat} {f : Nat → va_E} {cc : ByteArray} (hexec : p.tables.exec = Jvm.exec) (hb : c.code = cc) {own : String} {index : Nat} {ty : FieldType} {cy : ClassId} (hown : s.vm.findClass own = some m.cls) (hclink : (Cond.classLink own index ("[" ++ (FieldType.array ty).toString)).before args s = true) (hover : va_AOA ty s) (harr : (Cond.arrayClass ty).before args s = true) (hcy : s.vm.findClass (FieldType.array ty).toString = some cy)
    (hK : va_K D cl tys s) (hP : va_P D cl (X ++ va_pl L f) H) (hD : va_D A (X ++ va_pl L f)) (hS : va_S A H0 H locs) (hA : ∀ q, H0.size ≤ q → A q) {n k : Int32} {N' K' : Nat} {z : vp_A} (hn : ¬ n < 0) (hk : ¬ k < 0) (hN : n.toNatClampNeg = N') (hM : k.toNatClampNeg = K')
    (hb1 : N' * 4 ≤ 536870912) (hb2 : K' * componentBytes ty ≤ 536870912) (hb3 : K' ≤ 536870912) (hdf : fits ty (defaultValue ty) = true) (hdd : (defaultValue ty).isDefault = true) (hcells : cells + (1 + N') ≤ R.cells) (hslots : slots + (N' + N' * K') ≤ R.slots) (hz : ∀ c : ClassId, Jvm.Free.Multi.innerC c K' (defaultValue ty) = vp_cell c z) (hdg : decode cc pc = .ok (.multianewarray index 2, 4))
    (kk : ∀ (q : Nat) (r : Nat → Nat) (cA : ClassId) (H1 : Heap), (∀ i j : Nat, i < N' → j < N' → r i = r j → i = j) → (∀ i : Nat, i < N' → r i ∉ L) → va_K D cl (tys ++ [(cA, .array ty)]) s →
      va_P D cl ((X ++ [(q, .inl (cA, N', .inr (.inr (.inr (.inr (fun i => if i < N' then some (r i) else none))))))]) ++ va_pl (L ++ (List.range N').map r) (vr_up f ((List.range N').map r) (.inl (cy, z)))) H1 → va_D A ((X ++ [(q, .inl (cA, N', .inr (.inr (.inr (.inr (fun i => if i < N' then some (r i) else none))))))]) ++ va_pl (L ++ (List.range N').map r) (vr_up f ((List.range N').map r) (.inl (cy, z)))) → va_S A H0 H1 locs →
      W p l e R s m args below meth c H1 locs (cells + 1 + N') (slots + N' + N' * K') Q (F0 m (pc + 4) ls (.ref q :: rest))) : W p l e R s m args below meth c H locs cells slots Q (F0 m pc ls (.int k :: .int n :: rest)) := by
  subst hN
  subst hM
  intro T hT Xs
  obtain ⟨vm₁, cA, comp, -, fA, fC, hO, -, X', step⟩ := Xs.multianewarray2F hexec hown hclink (va_AOA.use hover) harr (g := F0 m pc ls (.int k :: .int n :: rest)) rfl (by rw [hb]; exact hdg) rfl hn hk hb1 hb2 hb3 hdf hdd hcells hslots
  have ec : some cy = some comp := hcy.symm.trans fC
  cases ec
  generalize hF : Jvm.Free.Multi.fill (T.setVm vm₁) cA cy n.toNatClampNeg k.toNatClampNeg (defaultValue ty) n.toNatClampNeg = F at X' step
  have hTh : (T.setVm vm₁).heap = H := hT
  obtain ⟨f1, f2, -, -⟩ := Jvm.Free.Multi.fill_facts (T.setVm vm₁) cA cy n.toNatClampNeg k.toNatClampNeg (defaultValue ty) n.toNatClampNeg
  rw [hF, hTh] at f1 f2
  have hold : ∀ x : Nat, x < H.size → F.heap[x]? = H[x]? := fun x hx => by
    have := Jvm.Free.Multi.fill_old (T.setVm vm₁) cA cy n.toNatClampNeg k.toNatClampNeg (defaultValue ty) (a := x) (by rw [hTh]; exact hx) n.toNatClampNeg
    rw [hF, hTh] at this
    exact this
  have hrow : ∀ j : Nat, j < n.toNatClampNeg → F.heap[H.size + 1 + j]? = some (vp_cell cy z) := fun j hj => by
    have := Jvm.Free.Multi.fill_inner (T.setVm vm₁) cA cy n.toNatClampNeg k.toNatClampNeg (defaultValue ty) n.toNatClampNeg j hj
    rw [hF, hTh, hz] at this
    exact this
  have hout : Jvm.Free.Multi.outerC cA n.toNatClampNeg H.size n.toNatClampNeg = vp_cell cA (n.toNatClampNeg, .inr (.inr (.inr (.inr (fun i => if i < n.toNatClampNeg then some (H.size + 1 + i) else none))))) := by
    rw [vp_cell_q]
    exact vr_outer cA n.toNatClampNeg H.size n.toNatClampNeg
  rw [hout] at f2
  have hlt : ∀ a, a ∈ L → a < H.size := fun a ha => by
    obtain ⟨k9, hk9⟩ := va_pl_get (X := X) (f := f) ha
    exact (hP k9 _ hk9).lt
  have hnl : ∀ i : Nat, i < n.toNatClampNeg → H.size + 1 + i ∉ L := fun i _ h => by
    have := hlt _ h
    omega
  have hnm : ∀ a, a ∈ (List.range n.toNatClampNeg).map (fun i => H.size + 1 + i) → a ∉ L := fun a ha h => by
    obtain ⟨i, -, rfl⟩ := List.mem_map.mp ha
    have := hlt _ h
    omega
  have hP0 : va_P D cl (X ++ va_pl L f) F.heap := hP.kept (fun k9 x hx => hold x.1 ((hP k9 x hx).lt))
  have hP1 : va_P D cl ((X ++ va_pl L f) ++ [(H.size, .inl (cA, n.toNatClampNeg, .inr (.inr (.inr (.inr (fun i => if i < n.toNatClampNeg then some (H.size + 1 + i) else none))))))]) F.heap := hP0.app (fun k9 x hx => by
    have h0 : k9 < 1 := (List.getElem?_eq_some_iff.mp hx).1
    rw [show k9 = 0 by omega] at hx
    cases hx
    exact f2)
  have hP2 : va_P D cl (((X ++ va_pl L f) ++ [(H.size, .inl (cA, n.toNatClampNeg, .inr (.inr (.inr (.inr (fun i => if i < n.toNatClampNeg then some (H.size + 1 + i) else none))))))]) ++ ((List.range n.toNatClampNeg).map (fun i => H.size + 1 + i)).map (fun a => (a, .inl (cy, z)))) F.heap := hP1.app (fun k9 x hx => by
    obtain ⟨a, ha, rfl⟩ := List.mem_map.mp (List.mem_of_getElem? hx)
    obtain ⟨i, hi, rfl⟩ := List.mem_map.mp ha
    exact hrow i (List.mem_range.mp hi))
  have hD2 : va_D A (((X ++ va_pl L f) ++ [(H.size, .inl (cA, n.toNatClampNeg, .inr (.inr (.inr (.inr (fun i => if i < n.toNatClampNeg then some (H.size + 1 + i) else none))))))]) ++ ((List.range n.toNatClampNeg).map (fun i => H.size + 1 + i)).map (fun a => (a, .inl (cy, z)))) := by
    have hD1 := hD.push (e := .inl (cA, n.toNatClampNeg, .inr (.inr (.inr (.inr (fun i => if i < n.toNatClampNeg then some (H.size + 1 + i) else none)))))) hP rfl (hA _ hS.1)
    generalize hW1 : (X ++ va_pl L f) ++ [(H.size, .inl (cA, n.toNatClampNeg, .inr (.inr (.inr (.inr (fun i => if i < n.toNatClampNeg then some (H.size + 1 + i) else none))))))] = W1 at hD1 hP1 ⊢
    have hle : ∀ (k9 : Nat) (x : Nat × va_E), W1[k9]? = some x → x.1 ≤ H.size := fun k9 x hx => by
      rw [← hW1] at hx
      by_cases hl : k9 < (X ++ va_pl L f).length
      · rw [List.getElem?_append_left hl] at hx
        exact Nat.le_of_lt ((hP k9 x hx).lt)
      · rw [List.getElem?_append_right (by omega)] at hx
        have h0 : k9 - (X ++ va_pl L f).length < 1 := (List.getElem?_eq_some_iff.mp hx).1
        rw [show k9 - (X ++ va_pl L f).length = 0 by omega] at hx
        cases hx
        exact Nat.le_refl _
    have hr : ∀ (k9 : Nat) (x : Nat × va_E), (((List.range n.toNatClampNeg).map (fun i => H.size + 1 + i)).map (fun a => ((a, .inl (cy, z)) : Nat × va_E)))[k9]? = some x → x.1 = H.size + 1 + k9 := fun k9 x hx => by
      rw [List.getElem?_map, List.getElem?_map] at hx
      by_cases h9 : k9 < n.toNatClampNeg
      · rw [List.getElem?_range h9] at hx
        cases hx
        rfl
      · have hn0 : (List.range n.toNatClampNeg)[k9]? = none := List.getElem?_eq_none (by rw [List.length_range]; omega)
        rw [hn0] at hx
        cases hx
    refine ⟨fun i j x y hi hj hxy => ?_, fun k9 x hx => ?_⟩
    · by_cases h1 : i < W1.length <;> by_cases h2 : j < W1.length
      · rw [List.getElem?_append_left h1] at hi
        rw [List.getElem?_append_left h2] at hj
        exact hD1.1 i j x y hi hj hxy
      · rw [List.getElem?_append_left h1] at hi
        rw [List.getElem?_append_right (by omega)] at hj
        have := hle _ _ hi
        have := hr _ _ hj
        omega
      · rw [List.getElem?_append_right (by omega)] at hi
        rw [List.getElem?_append_left h2] at hj
        have := hle _ _ hj
        have := hr _ _ hi
        omega
      · rw [List.getElem?_append_right (by omega)] at hi hj
        have := hr _ _ hi
        have := hr _ _ hj
        omega
    · by_cases h1 : k9 < W1.length
      · rw [List.getElem?_append_left h1] at hx
        exact hD1.2 k9 x hx
      · rw [List.getElem?_append_right (by omega)] at hx
        have := hr _ _ hx
        exact hA _ (by have := hS.1; omega)
  have hAr : ArrOfT s cA (.array ty) := fun N9 z9 => by
    obtain ⟨-, k9, hk9, cm9, hkk9⟩ := (hO 0 0 0).1
    exact ⟨(fun q hq => by cases hq), k9, hk9, cm9, hkk9⟩
  have hK2 : va_K D cl (tys ++ [(cA, .array ty)]) s := ⟨hK.1, fun k9 x hx => by
    by_cases hl : k9 < tys.length
    · rw [List.getElem?_append_left hl] at hx
      exact hK.2 k9 x hx
    · rw [List.getElem?_append_right (by omega)] at hx
      have h0 : k9 - tys.length < 1 := (List.getElem?_eq_some_iff.mp hx).1
      rw [show k9 - tys.length = 0 by omega] at hx
      cases hx
      exact ⟨hAr, fA⟩⟩
  obtain ⟨t, a1, b1⟩ := kk H.size (fun i => H.size + 1 + i) cA F.heap (fun i j _ _ h => by have h9 : H.size + 1 + i = H.size + 1 + j := h; omega) hnl hK2 (by rw [← vr_rows hnm]; exact vr_lay hP2) (by rw [← vr_rows hnm]; exact vr_layD hD2) ⟨by rw [f1]; have := hS.1; omega, fun x h1 h2 => (hold x (Nat.lt_of_lt_of_le h1 hS.1)).trans (hS.2.1 x h1 h2), hS.2.2⟩ F rfl X'
  refine ⟨t, step t ?_, b1⟩
  have e : T.heap.size = H.size := by rw [hT]
  rw [e]
  exact a1
end VGM
section VXA
def vx_T (XC : String → State → State → Prop) (st : State) (q : Addr) (t : State) (mc ms : Nat) (free : Addr → Prop) : Prop :=
  ∃ (E : String) (ce : Cell) (L : List Loc), XC E st t ∧ t.heap[q]? = some ce ∧ ce.vm = .none ∧ st.vm.findClass E = some ce.cls ∧ st.WarmedH t.vm ∧ st.sameButNew ({ t with vm := st.vm } : State) L mc ms ∧ ∀ z ∈ L, free z.base
def vx_Q (Qc : Array Value → State → Outcome → State → Prop) (XC : String → State → State → Prop) (mc ms : Nat) (free : Addr → Prop) : Array Value → State → Outcome → State → Prop := fun a st o t =>
  (Qc a st o t ∧ ∃ L, FrameEnd st o t L mc ms ∧ ∀ q ∈ L, free q.base) ∨ ∃ q, o = .threw q ∧ vx_T XC st q t mc ms free
def vx_Met (l : Launch) (y : MethodName) (ws : List Cond) (rm : Room) (Pc : Array Value → State → Prop) (Qc : Array Value → State → Outcome → State → Prop) (XC : String → State → State → Prop) (mc ms : Nat) (free : Addr → Prop) : Prop :=
  MetFree l y (headSpec ws rm) Pc (fun _ _ _ _ _ => True) (vx_Q Qc XC mc ms free)
def vx_Post (XC : String → State → State → Prop) (mc ms : Nat) (free : Addr → Prop) : Pt → Array Value → Addr → Pt → Prop := fun A a q B =>
  ∃ (g : JFrame) (mk : MethodId) (t : State) (L : List Loc) (E : String) (ce : Cell), B.U.heap = t.heap ∧ B.U.vm = t.vm ∧ XC E (A.U.calling g mk a) t ∧ t.heap[q]? = some ce ∧ ce.vm = .none ∧ A.U.vm.findClass E = some ce.cls ∧ B.locs = A.locs ++ L ∧ (∀ z ∈ L, free z.base) ∧ B.cells = A.cells + mc ∧ B.slots = A.slots + ms
def vx_Back (l : Launch) (R : Room) (p : Program) (e : Env) (below : List Frame) (s : State) (sargs : Array Value) (y : MethodName) (len W9 : Nat)
    (Pre : Pt → Array Value → Prop) (Post : Pt → Array Value → Option Value → Pt → Prop) (PostX : Pt → Array Value → Addr → Pt → Prop) : Prop :=
  ∀ (m : MethodId) (meth : Method) (c : Code) (A : Pt) (g : JFrame) (ig : Instr) (mk : MethodId) (a : Array Value),
    Stand p l e R s m sargs below meth c A.U A.locs A.cells A.slots → g.method = m → g.locals.size = c.maxLocals → decode c.code g.pc = .ok (ig, len) →
    2 * g.monitorRoom + (g.stack.map fun v => v.category).sum ≤ W9 → A.U.methodNamed? y = some mk → Pre A a →
    (∃ (v : Option Value) (B : Pt), Stand p l e R s m sargs below meth c B.U B.locs B.cells B.slots ∧ Post A a v B ∧
      Steps p.tables e below (doInvoke e (A.U.setTop g) [] mk a).1 (B.U.setTop { g with pc := g.pc + len, stack := v.toList ++ g.stack })) ∨
    (∃ (q : Addr) (B : Pt), Stand p l e R s m sargs below meth c B.U B.locs B.cells B.slots ∧ PostX A a q B ∧
      Steps p.tables e below (doInvoke e (A.U.setTop g) [] mk a).1 ((B.U.setTop g).pushFrame (.throwing q)))
section Payer
variable {l : Launch} {R : Room} {p : Program} {e : Env} {below : List Frame} {s : State} {sargs : Array Value} {y : MethodName} {len W9 : Nat}
theorem vx_back {ws : List Cond} {rm : Room} {Pc : Array Value → State → Prop} {Qc : Array Value → State → Outcome → State → Prop} {XC : String → State → State → Prop} {mc ms : Nat} {free : Addr → Prop} {bytes : ByteArray} {maxL : Nat} {ret : Option FieldType}
    (hM : vx_Met l y ws rm Pc Qc XC mc ms free) (hblind : FrameBlind Pc) (hrc : rm.cells = mc) (hrs : rm.slots = ms)
    (hframes : rm.frames + 1 ≤ R.frames) (hlocals : W9 + (maxL + 11) + rm.locals ≤ R.locals)
    (hws : ∀ w ∈ ws, ∀ a' U, s.WarmedH U.vm → w.before a' U = true) (hcode : Cond.code y bytes maxL ret ∈ ws) (hinit : ∀ a' U, s.WarmedH U.vm → (Cond.initialized y.cls).before a' U = true) :
    vx_Back l R p e below s sargs y len W9 (PreOf R mc ms Pc) (PostOf Qc mc ms free) (vx_Post XC mc ms free) := by
  intro m meth c A g ig mk a X hg hsize hdg hW hn hp
  have h1 : (headSpec ws rm).pre.before a A.U = true := atoms_intro fun w hw => hws w hw _ _ X.warmed
  have h2 : (Cond.code y bytes maxL ret).before a A.U = true := hws _ hcode _ _ X.warmed
  have h3 : (Cond.initialized y.cls).before a A.U = true := hinit _ _ X.warmed
  have h4 : A.cells + (headSpec ws rm).room.cells ≤ R.cells := by rw [show (headSpec ws rm).room.cells = mc from hrc]; exact hp.1
  have h5 : A.slots + (headSpec ws rm).room.slots ≤ R.slots := by rw [show (headSpec ws rm).room.slots = ms from hrs]; exact hp.2.1
  have hPc : Pc a (A.U.calling g mk a) := hblind _ _ _ _ hp.2.2
  obtain ⟨U, Ls, c0, s0⟩ := A
  dsimp only [Pt.U, Pt.locs, Pt.cells, Pt.slots] at h1 h2 h3 h4 h5 X hn hPc ⊢
  obtain ⟨methY, cY, hmY, hcY, -, hlY, -, -, -, -⟩ := Cond.code_spec hn h2
  obtain ⟨kY, hkY, -⟩ := className_of_methodNamed hn
  have hinitY : kY.init = .initialized := Cond.initialized_spec (findClass_of_methodNamed hn) hkY h3
  have h : At U g.method c below := by rw [hg]; exact X.here
  have hlocals9 : W9 + (maxL + 11) + (headSpec ws rm).room.locals ≤ R.locals := hlocals
  have happ : (headSpec ws rm).appliesLoose y e.platform (U.calling g mk a) = true :=
    Spec.appliesLoose_calling (g := g) h hdg hn hkY hinitY
      (X.room_calling (g := g) (R' := (headSpec ws rm).room) hsize hmY hcY hframes (by rw [hlY]; omega) h4 h5) h1
  obtain ⟨mid, hmid⟩ := h.above
  have hfr : (U.setTop g).frames = (.java g :: mid) ++ below := by rw [State.frames_setTop' g h.top, hmid]; rfl
  obtain ⟨o, s₂, hsteps, -, hend, hq⟩ := Steps.callFree hM p X.admits X.cas X.clock (acts := []) hfr happ hPc trivial
  have hq' : vx_Q Qc XC mc ms free a (U.calling g mk a) o s₂ := hq
  rw [State.frames_setTop' g h.top] at hend
  obtain ⟨g₀, hg0⟩ := Option.isSome_iff_exists.mp h.top
  obtain ⟨r, hr⟩ := State.topJava?_eq_some.mp hg0
  have hr' : (({ U with heap := s₂.heap, slotsUsed := s₂.slotsUsed } : State).setVm s₂.vm).frames = .java g₀ :: r := hr
  rcases hq' with ⟨hqc, L, hfe, hL⟩ | ⟨q, rfl, E, ce, L, hx, hce, hcv, hcl, hW₂, hsm, hL⟩
  · obtain ⟨⟨v, rfl⟩, hW₂, e2, q2, q3, q4, q5, q6⟩ := id hfe
    have e3 : s₂ = ({ (U.calling g mk a).setFrames s₂.frames with heap := s₂.heap, slotsUsed := s₂.slotsUsed } : State).setVm s₂.vm := by
      have : s₂ = ({ s₂ with vm := (U.calling g mk a).vm } : State).setVm s₂.vm := rfl
      rw [e2] at this
      exact this
    obtain ⟨c₂, i₂, len₂, hc₂, hd₂, hf₂⟩ := hend
    have hW' : U.WarmedH s₂.vm := hW₂
    have hcc : c₂ = c := by
      have h1 : s₂.code? g.method = U.code? g.method := by
        rw [State.code?_eq, State.code?_eq, hW'.alike.method?]
      exact Option.some.inj (hc₂.symm.trans (h1.trans h.code))
    subst hcc
    have hlen : len₂ = len := by rw [hdg] at hd₂; cases hd₂; rfl
    subst hlen
    have hs₂ : s₂ = (({ U with heap := s₂.heap, slotsUsed := s₂.slotsUsed } : State).setVm s₂.vm).setTop { g with pc := g.pc + len₂, stack := v.toList ++ g.stack } := by
      refine e3.trans ?_
      rw [hf₂, State.calling_eq h.top, State.setFrames_setFrames, State.setTop_of_frames _ hr', hr]
      rfl
    have hsame : U.sameButNew ({ U with heap := s₂.heap, slotsUsed := s₂.slotsUsed } : State) L mc ms := by
      refine ⟨?_, q2, q3, q4, q5, q6⟩
      obtain ⟨t, ht, -⟩ := State.frames_cons hr
      show ({ U with heap := s₂.heap, slotsUsed := s₂.slotsUsed } : State) = { U.setFrames U.frames with heap := s₂.heap, slotsUsed := s₂.slotsUsed }
      rw [State.setFrames_self ht]
    subst hg
    refine Or.inl ⟨v, ⟨(({ U with heap := s₂.heap, slotsUsed := s₂.slotsUsed } : State).setVm s₂.vm), Ls ++ L, c0 + mc, s0 + ms⟩,
      ⟨X.admits, X.cas, X.clock, X.frames, X.room, X.hears, X.method, X.code, (X.here.setHeapUsed s₂.heap s₂.slotsUsed).setVm hW'.alike, X.tail, State.WarmedH.trans X.warmed hW', X.limits, X.bytes, X.same.trans (hsame.setVm s.vm)⟩,
      ⟨g, mk, s₂, L, rfl, rfl, hqc, rfl, hL, rfl, rfl⟩, ?_⟩
    show Steps p.tables e below _ ((({ U with heap := s₂.heap, slotsUsed := s₂.slotsUsed } : State).setVm s₂.vm).setTop { g with pc := g.pc + len₂, stack := v.toList ++ g.stack })
    rw [← hs₂]
    exact hsteps
  · obtain ⟨e2, q2, q3, q4, q5, q6⟩ := id hsm
    have e3 : s₂ = ({ (U.calling g mk a).setFrames s₂.frames with heap := s₂.heap, slotsUsed := s₂.slotsUsed } : State).setVm s₂.vm := by
      have : s₂ = ({ s₂ with vm := (U.calling g mk a).vm } : State).setVm s₂.vm := rfl
      rw [e2] at this
      exact this
    have hf₂ : s₂.frames = .throwing q :: .java g :: U.frames.tail := hend
    have hW' : U.WarmedH s₂.vm := hW₂
    have hs₂ : s₂ = ((({ U with heap := s₂.heap, slotsUsed := s₂.slotsUsed } : State).setVm s₂.vm).setTop g).pushFrame (.throwing q) := by
      refine e3.trans ?_
      rw [hf₂, State.calling_eq h.top, State.setFrames_setFrames, State.pushFrame, State.frames_setTop _ hr', State.setTop_of_frames _ hr', State.setFrames_setFrames, hr]
      rfl
    have hsame : U.sameButNew ({ U with heap := s₂.heap, slotsUsed := s₂.slotsUsed } : State) L mc ms := by
      refine ⟨?_, q2, q3, q4, q5, q6⟩
      obtain ⟨t, ht, -⟩ := State.frames_cons hr
      show ({ U with heap := s₂.heap, slotsUsed := s₂.slotsUsed } : State) = { U.setFrames U.frames with heap := s₂.heap, slotsUsed := s₂.slotsUsed }
      rw [State.setFrames_self ht]
    subst hg
    refine Or.inr ⟨q, ⟨(({ U with heap := s₂.heap, slotsUsed := s₂.slotsUsed } : State).setVm s₂.vm), Ls ++ L, c0 + mc, s0 + ms⟩,
      ⟨X.admits, X.cas, X.clock, X.frames, X.room, X.hears, X.method, X.code, (X.here.setHeapUsed s₂.heap s₂.slotsUsed).setVm hW'.alike, X.tail, State.WarmedH.trans X.warmed hW', X.limits, X.bytes, X.same.trans (hsame.setVm s.vm)⟩,
      ⟨g, mk, s₂, L, E, ce, rfl, rfl, hx, hce, hcv, hcl, rfl, hL, rfl, rfl⟩, ?_⟩
    show Steps p.tables e below _ (((({ U with heap := s₂.heap, slotsUsed := s₂.slotsUsed } : State).setVm s₂.vm).setTop g).pushFrame (.throwing q))
    rw [← hs₂]
    exact hsteps
end Payer
section Calls
variable {p : Program} {l : Launch} {e : Env} {R : Room} {s : State} {m : MethodId} {args : Array Value} {below : List Frame} {meth : Method} {c : Code} {T : State} {locs : List Loc} {cells slots : Nat}
theorem vx_callV (X : Stand p l e R s m args below meth c T locs cells slots) (hexec : p.tables.exec = Jvm.exec) {own C : String} {index : Nat} {y : MethodName} {bytes : ByteArray} {maxL : Nat} {ret : Option FieldType}
    (hown : s.vm.findClass own = some m.cls) (hlink : (Cond.methodLink own index y).before args s = true) (hinst : (Cond.instanceMethod y).before args s = true) (hsel : (Cond.selects C y y).before args s = true)
    (hcode : (Cond.code y bytes maxL ret).before args s = true) (hy : y.cls ≠ "java/lang/invoke/MethodHandle" ∧ y.cls ≠ "java/lang/invoke/VarHandle")
    {W9 : Nat} {Pre : Pt → Array Value → Prop} {Post : Pt → Array Value → Option Value → Pt → Prop} {PostX : Pt → Array Value → Addr → Pt → Prop} (hK : vx_Back l R p e below s args y 3 W9 Pre Post PostX)
    {b : Addr} {cellB : Cell} (hcell : T.heap[b]? = some cellB) (hobj : cellB.vm.isStatics = false) (hcls : s.vm.findClass C = some cellB.cls)
    {g : JFrame} (hg : g.method = m) (hsize : g.locals.size = c.maxLocals) {argsL rest : List Value} (hlen : ∀ sig, parseMethodDescriptor y.desc = some sig → argsL.length = sig.parameters.length)
    (hstack : g.stack = argsL.reverse ++ .ref b :: rest) (hW : 2 * g.monitorRoom + (rest.map fun v => v.category).sum ≤ W9) (hdg : decode c.code g.pc = .ok (.invokevirtual index, 3))
    (hpre : ∀ vm₁, s.WarmedH vm₁ → Pre ⟨T.setVm vm₁, locs, cells, slots⟩ (Value.ref b :: argsL).toArray) :
    (∃ (v : Option Value) (vm₁ : Vm) (B : Pt), s.WarmedH vm₁ ∧ Stand p l e R s m args below meth c B.U B.locs B.cells B.slots ∧ Post ⟨T.setVm vm₁, locs, cells, slots⟩ (Value.ref b :: argsL).toArray v B ∧
      ∀ target, Steps p.tables e below (B.U.setTop { g with pc := g.pc + 3, stack := v.toList ++ rest }) target → Steps p.tables e below (T.setTop g) target) ∨
    (∃ (q : Addr) (vm₁ : Vm) (B : Pt), s.WarmedH vm₁ ∧ Stand p l e R s m args below meth c B.U B.locs B.cells B.slots ∧ PostX ⟨T.setVm vm₁, locs, cells, slots⟩ (Value.ref b :: argsL).toArray q B ∧
      Steps p.tables e below (T.setTop g) ((B.U.setTop { g with stack := rest }).pushFrame (.throwing q))) := by
  obtain ⟨mk, methM, hnamed, hmethM, hstM, habM⟩ := Cond.instanceMethod_spec hinst
  obtain ⟨methM', cM, hmethM', -, -, -, -, -, -, hsigM⟩ := Cond.code_spec hnamed hcode
  cases hmethM.symm.trans hmethM'
  obtain ⟨c2, r2, m2, q1, q2, q3, q4, kP, hkP, hkPi⟩ := Cond.selects_spec hsel
  cases hcls.symm.trans q1
  cases (State.methodFound?_of_named hnamed hy).symm.trans q2
  cases hnamed.symm.trans q3
  have hselP : selectMethod e.platform s.vm cellB.cls mk = .method mk := by rw [Launch.admits_selectMethod X.admits]; exact q4
  obtain ⟨vm₁, X₁, hstep₁⟩ := X.invokevirtual hexec hown hlink hnamed hmethM hstM hkP hkPi hy (a := b) (cell := cellB) hcell
    (fun z h => by rw [h] at hobj; cases hobj) hselP hmethM habM hkP hkPi (g := g) hg (argsL := argsL) (rest := rest) (hlen _ hsigM) hstack hdg
  rcases hK m meth c ⟨T.setVm vm₁, locs, cells, slots⟩ { g with stack := rest } (.invokevirtual index) mk (Value.ref b :: argsL).toArray X₁ hg hsize hdg hW (X₁.named hnamed) (hpre vm₁ X₁.warmed) with ⟨v, B, X', hpost, hsteps⟩ | ⟨q, B, X', hpost, hsteps⟩
  · exact Or.inl ⟨v, vm₁, B, X₁.warmed, X', hpost, fun target h => hstep₁ _ fun acts => by rw [doInvoke_state]; exact hsteps.trans h⟩
  · exact Or.inr ⟨q, vm₁, B, X₁.warmed, X', hpost, hstep₁ _ fun acts => by rw [doInvoke_state]; exact hsteps⟩
theorem vx_callS (X : Stand p l e R s m args below meth c T locs cells slots) (hexec : p.tables.exec = Jvm.exec) {own : String} {index : Nat} {y : MethodName} {bytes : ByteArray} {maxL : Nat} {ret : Option FieldType}
    (hown : s.vm.findClass own = some m.cls) (hlink : (Cond.methodLink own index y).before args s = true) (hstat : (Cond.static y).before args s = true) (hinit : (Cond.initialized y.cls).before args s = true)
    (hcode : (Cond.code y bytes maxL ret).before args s = true) (hy : y.cls ≠ "java/lang/invoke/MethodHandle" ∧ y.cls ≠ "java/lang/invoke/VarHandle")
    {W9 : Nat} {Pre : Pt → Array Value → Prop} {Post : Pt → Array Value → Option Value → Pt → Prop} {PostX : Pt → Array Value → Addr → Pt → Prop} (hK : vx_Back l R p e below s args y 3 W9 Pre Post PostX)
    {g : JFrame} (hg : g.method = m) (hsize : g.locals.size = c.maxLocals) {argsL rest : List Value} (hlen : ∀ sig, parseMethodDescriptor y.desc = some sig → argsL.length = sig.parameters.length)
    (hstack : g.stack = argsL.reverse ++ rest) (hW : 2 * g.monitorRoom + (rest.map fun v => v.category).sum ≤ W9) (hdg : decode c.code g.pc = .ok (.invokestatic index, 3))
    (hpre : ∀ vm₁, s.WarmedH vm₁ → Pre ⟨T.setVm vm₁, locs, cells, slots⟩ argsL.toArray) :
    (∃ (v : Option Value) (vm₁ : Vm) (B : Pt), s.WarmedH vm₁ ∧ Stand p l e R s m args below meth c B.U B.locs B.cells B.slots ∧ Post ⟨T.setVm vm₁, locs, cells, slots⟩ argsL.toArray v B ∧
      ∀ target, Steps p.tables e below (B.U.setTop { g with pc := g.pc + 3, stack := v.toList ++ rest }) target → Steps p.tables e below (T.setTop g) target) ∨
    (∃ (q : Addr) (vm₁ : Vm) (B : Pt), s.WarmedH vm₁ ∧ Stand p l e R s m args below meth c B.U B.locs B.cells B.slots ∧ PostX ⟨T.setVm vm₁, locs, cells, slots⟩ argsL.toArray q B ∧
      Steps p.tables e below (T.setTop g) ((B.U.setTop { g with stack := rest }).pushFrame (.throwing q))) := by
  obtain ⟨mk, hnamed⟩ := Cond.code_named hcode
  obtain ⟨methM, cM, hmethM, -, -, -, -, -, -, hsigM⟩ := Cond.code_spec hnamed hcode
  have hstatic : methM.isStatic = true := Cond.static_spec hnamed hmethM hstat
  obtain ⟨kP, hkP, -⟩ := className_of_methodNamed hnamed
  have hinitP : kP.init = .initialized := Cond.initialized_spec (findClass_of_methodNamed hnamed) hkP hinit
  obtain ⟨vm₁, X₁, hstep₁⟩ := X.invokestatic hexec hown hlink hnamed hmethM hstatic hkP hinitP hy (g := g) hg (argsL := argsL) (rest := rest) (hlen _ hsigM) hstack hdg
  rcases hK m meth c ⟨T.setVm vm₁, locs, cells, slots⟩ { g with stack := rest } (.invokestatic index) mk argsL.toArray X₁ hg hsize hdg hW (X₁.named hnamed) (hpre vm₁ X₁.warmed) with ⟨v, B, X', hpost, hsteps⟩ | ⟨q, B, X', hpost, hsteps⟩
  · exact Or.inl ⟨v, vm₁, B, X₁.warmed, X', hpost, fun target h => hstep₁ _ fun acts => by rw [doInvoke_state]; exact hsteps.trans h⟩
  · exact Or.inr ⟨q, vm₁, B, X₁.warmed, X', hpost, hstep₁ _ fun acts => by rw [doInvoke_state]; exact hsteps⟩
end Calls
theorem vx_cls {s : State} {T : State} {vm₁ : Vm} {E : String} {k : ClassId} (hW : s.WarmedH vm₁) (h : (T.setVm vm₁).vm.findClass E = some k) : s.vm.findClass E = some k := by
  have h1 : vm₁.findClass E = some k := h
  rw [hW.alike.findClass] at h1
  exact h1
def vx_W (p : Program) (l : Launch) (e : Env) (R : Room) (s : State) (m : MethodId) (args : Array Value) (below : List Frame) (meth : Method) (c : Code) (H : Heap) (locs : List Loc) (cells slots : Nat) (Q : State → Prop) (g : JFrame) (q : Addr) : Prop :=
  ∀ T : State, T.heap = H → Stand p l e R s m args below meth c T locs cells slots → ∃ t, Steps p.tables e below ((T.setTop g).pushFrame (.throwing q)) t ∧ Q t
def vx_Run (p : Program) (l : Launch) (e : Env) (R : Room) (s : State) (m : MethodId) (args : Array Value) (below : List Frame) (meth : Method) (c : Code) (H : Heap) (locs : List Loc) (cells slots mc ms : Nat) (g : JFrame) (rest : List Value) (Qa : State → Outcome → State → Prop) (XC : String → State → State → Prop) (free : Addr → Prop) : Prop :=
  ∀ T : State, T.heap = H → Stand p l e R s m args below meth c T locs cells slots →
    (∃ (v : Option Value) (st₀ t T' : State) (L : List Loc), st₀.heap = H ∧ Stand p l e R s m args below meth c T' (locs ++ L) (cells + mc) (slots + ms) ∧ (∀ q ∈ L, free q.base) ∧ T'.heap = t.heap ∧ T'.vm = t.vm ∧ Qa st₀ (.returned v) t ∧
      Goes p e below T g T' { g with pc := g.pc + 3, stack := v.toList ++ rest }) ∨
    (∃ (q : Addr) (st₀ t T' : State) (L : List Loc) (E : String) (ce : Cell), st₀.heap = H ∧ Stand p l e R s m args below meth c T' (locs ++ L) (cells + mc) (slots + ms) ∧ (∀ z ∈ L, free z.base) ∧ T'.heap = t.heap ∧ T'.vm = t.vm ∧ XC E st₀ t ∧ t.heap[q]? = some ce ∧ ce.vm = .none ∧ s.vm.findClass E = some ce.cls ∧
      Steps p.tables e below (T.setTop g) ((T'.setTop { g with stack := rest }).pushFrame (.throwing q)))
def vx_X {S : Type} (px : S → Prop) (B : String → S → State → Prop) (A : Nat → Prop) : String → State → State → Prop := fun E st t => ∃ u : S, px u ∧ B E u t ∧ va_F A st t
section Runs
variable {p : Program} {l : Launch} {e : Env} {R : Room} {s : State} {m : MethodId} {args : Array Value} {below : List Frame} {meth : Method} {c : Code} {H : Heap} {locs : List Loc} {cells slots : Nat}
variable {y : MethodName} {bytes cc : ByteArray} {maxL nL mc ms n index : Nat} {ret : Option FieldType} {ws : List Cond} {rm : Room} {Pc : Array Value → State → Prop} {Qc : Array Value → State → Outcome → State → Prop} {XC : String → State → State → Prop} {free : Addr → Prop} {Ts : List Cond} {own C : String} {b : Addr} {As rest : List Value} {g : JFrame}
theorem vx_callBack (cb : CallB R s args own index y bytes maxL ret ws rm mc ms n) (hM : vx_Met l y ws rm Pc Qc XC mc ms free) (hbl : FrameBlind Pc) : vx_Back l R p e below s args y 3 8 (PreOf R mc ms Pc) (PostOf Qc mc ms free) (vx_Post XC mc ms free) := by
  obtain ⟨hrc, hrs, hfr, hlo, hws, hcw, -, hini, -⟩ := cb
  exact vx_back (bytes := bytes) (maxL := maxL) (ret := ret) hM hbl hrc hrs hfr hlo hws hcw (fun a' U hW => word_at hW (Or.inl (by first | rfl | simp [Cond.onTables, Cond.keeps, Cond.steady])) hini)
theorem vx_runV (S : CallFix p m c cc nL s args Ts own) (hM : vx_Met l y ws rm Pc Qc XC mc ms free) (cw : CallW R s args own C index y bytes maxL ret ws rm mc ms n) (hp : PreV s H C b Pc As)
    (hg : g.method = m) (hn : As.length = n) (hsize : g.locals.size = nL) (hstack : g.stack = As.reverse ++ .ref b :: rest) (hW : 2 * g.monitorRoom + (rest.map fun v => v.category).sum ≤ 8) (hdg : decode cc g.pc = .ok (.invokevirtual index, 3)) (hf : cells + mc ≤ R.cells ∧ slots + ms ≤ R.slots) :
    vx_Run p l e R s m args below meth c H locs cells slots mc ms g rest (Qc (Value.ref b :: As).toArray) XC free := by
  have hK : vx_Back l R p e below s args y 3 8 (PreOf R mc ms Pc) (PostOf Qc mc ms free) (vx_Post XC mc ms free) := vx_callBack cw.1 hM hp.1
  obtain ⟨⟨-, -, -, -, -, -, hcode, -, hy, hlen, hl⟩, hin, hse⟩ := cw
  obtain ⟨hx, hb, hml, ho, -⟩ := S
  obtain ⟨-, ⟨cellB, hcB, hoB, hclB⟩, hPc⟩ := hp
  intro T hT X
  rcases vx_callV X hx (C := C) (bytes := bytes) (maxL := maxL) (ret := ret) ho hl hin hse hcode hy hK (by rw [hT]; exact hcB) hoB hclB hg (hsize.trans hml.symm) (argsL := As) (rest := rest) (fun sig h => hn.trans (hlen sig h)) hstack hW (by rw [hb]; exact hdg)
    (fun vm₁ hW₁ => ⟨hf.1, hf.2, hPc (T.setVm vm₁) hT hW₁⟩) with ⟨v, vm₁, ⟨U', l2, c2, s2⟩, hW₁, X', ⟨g', mk, t, L, e1, e2, hq, h1, hL, h2, h3⟩, st⟩ | ⟨q, vm₁, ⟨U', l2, c2, s2⟩, hW₁, X', ⟨g', mk, t, L, E, ce, e1, e2, hq, hce, hcv, hcl, h1, hL, h2, h3⟩, st⟩
  · dsimp only [Pt.U, Pt.locs, Pt.cells, Pt.slots] at X' e1 e2 h1 h2 h3 st
    subst h1; subst h2; subst h3
    exact Or.inl ⟨v, (T.setVm vm₁).calling g' mk (Value.ref b :: As).toArray, t, U', L, hT, X', hL, e1, e2, hq, st⟩
  · dsimp only [Pt.U, Pt.locs, Pt.cells, Pt.slots] at X' e1 e2 h1 h2 h3 st hcl
    subst h1; subst h2; subst h3
    exact Or.inr ⟨q, (T.setVm vm₁).calling g' mk (Value.ref b :: As).toArray, t, U', L, E, ce, hT, X', hL, e1, e2, hq, hce, hcv, vx_cls hW₁ hcl, st⟩
theorem vx_runS (S : CallFix p m c cc nL s args Ts own) (hM : vx_Met l y ws rm Pc Qc XC mc ms free) (cw : CallB R s args own index y bytes maxL ret ws rm mc ms n ∧ (Cond.static y).before args s = true) (hp : PreS s H Pc As)
    (hg : g.method = m) (hn : As.length = n) (hsize : g.locals.size = nL) (hstack : g.stack = As.reverse ++ rest) (hW : 2 * g.monitorRoom + (rest.map fun v => v.category).sum ≤ 8) (hdg : decode cc g.pc = .ok (.invokestatic index, 3)) (hf : cells + mc ≤ R.cells ∧ slots + ms ≤ R.slots) :
    vx_Run p l e R s m args below meth c H locs cells slots mc ms g rest (Qc As.toArray) XC free := by
  have hK : vx_Back l R p e below s args y 3 8 (PreOf R mc ms Pc) (PostOf Qc mc ms free) (vx_Post XC mc ms free) := vx_callBack cw.1 hM hp.1
  obtain ⟨⟨-, -, -, -, -, -, hcode, hini, hy, hlen, hl⟩, hstt⟩ := cw
  obtain ⟨hx, hb, hml, ho, -⟩ := S
  intro T hT X
  rcases vx_callS X hx (bytes := bytes) (maxL := maxL) (ret := ret) ho hl hstt hini hcode hy hK hg (hsize.trans hml.symm) (argsL := As) (rest := rest) (fun sig h => hn.trans (hlen sig h)) hstack hW (by rw [hb]; exact hdg)
    (fun vm₁ hW₁ => ⟨hf.1, hf.2, hp.2 (T.setVm vm₁) hT hW₁⟩) with ⟨v, vm₁, ⟨U', l2, c2, s2⟩, hW₁, X', ⟨g', mk, t, L, e1, e2, hq, h1, hL, h2, h3⟩, st⟩ | ⟨q, vm₁, ⟨U', l2, c2, s2⟩, hW₁, X', ⟨g', mk, t, L, E, ce, e1, e2, hq, hce, hcv, hcl, h1, hL, h2, h3⟩, st⟩
  · dsimp only [Pt.U, Pt.locs, Pt.cells, Pt.slots] at X' e1 e2 h1 h2 h3 st
    subst h1; subst h2; subst h3
    exact Or.inl ⟨v, (T.setVm vm₁).calling g' mk As.toArray, t, U', L, hT, X', hL, e1, e2, hq, st⟩
  · dsimp only [Pt.U, Pt.locs, Pt.cells, Pt.slots] at X' e1 e2 h1 h2 h3 st hcl
    subst h1; subst h2; subst h3
    exact Or.inr ⟨q, (T.setVm vm₁).calling g' mk As.toArray, t, U', L, E, ce, hT, X', hL, e1, e2, hq, hce, hcv, vx_cls hW₁ hcl, st⟩
end Runs
section Rows
variable {p : Program} {l : Launch} {e : Env} {R : Room} {s : State} {m : MethodId} {args : Array Value} {below : List Frame} {meth : Method} {c : Code} {H : Heap} {locs : List Loc} {cells slots : Nat} {Q : State → Prop}
variable {mc ms : Nat} {free : Addr → Prop} {A0 A1 : Nat → Prop} {H0 : Heap} {a : Array Value} {pc : Nat} {ls : Array Slot} {st0 rest : List Value}
theorem vx_keep {st₀ t T' : State} {L : List Loc} (h0 : st₀.heap = H) (e1 : T'.heap = t.heap) (hS : va_S A0 H0 H locs) (hA : ∀ q, q < H.size → A1 q → A0 q) (hf : ∀ q, free q → A0 q) (hL : ∀ q ∈ L, free q.base) (hF : va_F A1 st₀ t) :
    H.size ≤ T'.heap.size ∧ (∀ q : Nat, q < H.size → ¬ A1 q → T'.heap[q]? = H[q]?) ∧ va_S A0 H0 T'.heap (locs ++ L) := by
  obtain ⟨hz, hk⟩ := hF
  rw [h0] at hz hk
  exact ⟨by rw [e1]; exact hz, fun q h1 h2 => by rw [e1]; exact hk q h1 h2,
    ⟨Nat.le_trans hS.1 (by rw [e1]; exact hz), fun q h1 h2 => by rw [e1, hk q (Nat.lt_of_lt_of_le h1 hS.1) (fun z => h2 (hA q (Nat.lt_of_lt_of_le h1 hS.1) z))]; exact hS.2.1 q h1 h2, fun q hq => by
      rcases List.mem_append.mp hq with h | h
      · exact hS.2.2 q h
      · exact hf _ (hL q h)⟩⟩
theorem vx_calli {S SX : Type} {post : Int32 → S → Prop} {px : SX → Prop} {B : S → State → Prop} {BX : String → SX → State → Prop} {AX : Nat → Prop} (hr : vx_Run p l e R s m args below meth c H locs cells slots mc ms (F0 m pc ls st0) rest (va_Qi post B A1 a) (vx_X px BX AX) free) (hS : va_S A0 H0 H locs) (hA : ∀ q, q < H.size → A1 q → A0 q) (hf : ∀ q, free q → A0 q) (hAX : ∀ q, q < H.size → AX q → A0 q)
    (kx : ∀ (E : String) (ce : Cell) (q9 : Addr) (u : SX) (t : State) (H1 : Heap) (locs1 : List Loc), t.heap = H1 → s.vm.Alike t.vm → px u → BX E u t → H.size ≤ H1.size → (∀ q : Nat, q < H.size → ¬ AX q → H1[q]? = H[q]?) → va_S A0 H0 H1 locs1 → H1[q9]? = some ce → ce.vm = .none → s.vm.findClass E = some ce.cls → vx_W p l e R s m args below meth c H1 locs1 (cells + mc) (slots + ms) Q (F0 m pc ls rest) q9)
    (kk : ∀ (r : Int32) (u : S) (t : State) (H1 : Heap) (locs1 : List Loc), t.heap = H1 → s.vm.Alike t.vm → post r u → B u t → H.size ≤ H1.size → (∀ q : Nat, q < H.size → ¬ A1 q → H1[q]? = H[q]?) → va_S A0 H0 H1 locs1 → W p l e R s m args below meth c H1 locs1 (cells + mc) (slots + ms) Q (F0 m (pc + 3) ls (.int r :: rest))) : W p l e R s m args below meth c H locs cells slots Q (F0 m pc ls st0) := by
  intro T hT X
  rcases hr T hT X with ⟨v, st₀, t, T', L, h0, X', hL, e1, e2, ⟨⟨r, u, hv, hp, hb⟩, hF⟩, st⟩ | ⟨q, st₀, t, T', L, E, ce, h0, X', hL, e1, e2, ⟨u, hp, hb, hF⟩, hce, hcv, hcl, st⟩
  · cases hv
    obtain ⟨k1, k2, k3⟩ := vx_keep h0 e1 hS hA hf hL hF
    obtain ⟨t2, a1, b1⟩ := kk r u t T'.heap (locs ++ L) e1.symm (by rw [← e2]; exact X'.warmed.alike) hp hb k1 k2 k3 T' rfl X'
    exact ⟨t2, st t2 a1, b1⟩
  · obtain ⟨k1, k2, k3⟩ := vx_keep h0 e1 hS hAX hf hL hF
    obtain ⟨t2, a1, b1⟩ := kx E ce q u t T'.heap (locs ++ L) e1.symm (by rw [← e2]; exact X'.warmed.alike) hp hb k1 k2 k3 (by rw [e1]; exact hce) hcv hcl T' rfl X'
    exact ⟨t2, st.trans a1, b1⟩
theorem vx_calll {S SX : Type} {post : Int64 → S → Prop} {px : SX → Prop} {B : S → State → Prop} {BX : String → SX → State → Prop} {AX : Nat → Prop} (hr : vx_Run p l e R s m args below meth c H locs cells slots mc ms (F0 m pc ls st0) rest (va_Ql post B A1 a) (vx_X px BX AX) free) (hS : va_S A0 H0 H locs) (hA : ∀ q, q < H.size → A1 q → A0 q) (hf : ∀ q, free q → A0 q) (hAX : ∀ q, q < H.size → AX q → A0 q)
    (kx : ∀ (E : String) (ce : Cell) (q9 : Addr) (u : SX) (t : State) (H1 : Heap) (locs1 : List Loc), t.heap = H1 → s.vm.Alike t.vm → px u → BX E u t → H.size ≤ H1.size → (∀ q : Nat, q < H.size → ¬ AX q → H1[q]? = H[q]?) → va_S A0 H0 H1 locs1 → H1[q9]? = some ce → ce.vm = .none → s.vm.findClass E = some ce.cls → vx_W p l e R s m args below meth c H1 locs1 (cells + mc) (slots + ms) Q (F0 m pc ls rest) q9)
    (kk : ∀ (r : Int64) (u : S) (t : State) (H1 : Heap) (locs1 : List Loc), t.heap = H1 → s.vm.Alike t.vm → post r u → B u t → H.size ≤ H1.size → (∀ q : Nat, q < H.size → ¬ A1 q → H1[q]? = H[q]?) → va_S A0 H0 H1 locs1 → W p l e R s m args below meth c H1 locs1 (cells + mc) (slots + ms) Q (F0 m (pc + 3) ls (.long r :: rest))) : W p l e R s m args below meth c H locs cells slots Q (F0 m pc ls st0) := by
  intro T hT X
  rcases hr T hT X with ⟨v, st₀, t, T', L, h0, X', hL, e1, e2, ⟨⟨r, u, hv, hp, hb⟩, hF⟩, st⟩ | ⟨q, st₀, t, T', L, E, ce, h0, X', hL, e1, e2, ⟨u, hp, hb, hF⟩, hce, hcv, hcl, st⟩
  · cases hv
    obtain ⟨k1, k2, k3⟩ := vx_keep h0 e1 hS hA hf hL hF
    obtain ⟨t2, a1, b1⟩ := kk r u t T'.heap (locs ++ L) e1.symm (by rw [← e2]; exact X'.warmed.alike) hp hb k1 k2 k3 T' rfl X'
    exact ⟨t2, st t2 a1, b1⟩
  · obtain ⟨k1, k2, k3⟩ := vx_keep h0 e1 hS hAX hf hL hF
    obtain ⟨t2, a1, b1⟩ := kx E ce q u t T'.heap (locs ++ L) e1.symm (by rw [← e2]; exact X'.warmed.alike) hp hb k1 k2 k3 (by rw [e1]; exact hce) hcv hcl T' rfl X'
    exact ⟨t2, st.trans a1, b1⟩
theorem vx_callf {S SX : Type} {post : UInt32 → S → Prop} {px : SX → Prop} {B : S → State → Prop} {BX : String → SX → State → Prop} {AX : Nat → Prop} (hr : vx_Run p l e R s m args below meth c H locs cells slots mc ms (F0 m pc ls st0) rest (va_Qf post B A1 a) (vx_X px BX AX) free) (hS : va_S A0 H0 H locs) (hA : ∀ q, q < H.size → A1 q → A0 q) (hf : ∀ q, free q → A0 q) (hAX : ∀ q, q < H.size → AX q → A0 q)
    (kx : ∀ (E : String) (ce : Cell) (q9 : Addr) (u : SX) (t : State) (H1 : Heap) (locs1 : List Loc), t.heap = H1 → s.vm.Alike t.vm → px u → BX E u t → H.size ≤ H1.size → (∀ q : Nat, q < H.size → ¬ AX q → H1[q]? = H[q]?) → va_S A0 H0 H1 locs1 → H1[q9]? = some ce → ce.vm = .none → s.vm.findClass E = some ce.cls → vx_W p l e R s m args below meth c H1 locs1 (cells + mc) (slots + ms) Q (F0 m pc ls rest) q9)
    (kk : ∀ (r : UInt32) (u : S) (t : State) (H1 : Heap) (locs1 : List Loc), t.heap = H1 → s.vm.Alike t.vm → post r u → B u t → H.size ≤ H1.size → (∀ q : Nat, q < H.size → ¬ A1 q → H1[q]? = H[q]?) → va_S A0 H0 H1 locs1 → W p l e R s m args below meth c H1 locs1 (cells + mc) (slots + ms) Q (F0 m (pc + 3) ls (.float r :: rest))) : W p l e R s m args below meth c H locs cells slots Q (F0 m pc ls st0) := by
  intro T hT X
  rcases hr T hT X with ⟨v, st₀, t, T', L, h0, X', hL, e1, e2, ⟨⟨r, u, hv, hp, hb⟩, hF⟩, st⟩ | ⟨q, st₀, t, T', L, E, ce, h0, X', hL, e1, e2, ⟨u, hp, hb, hF⟩, hce, hcv, hcl, st⟩
  · cases hv
    obtain ⟨k1, k2, k3⟩ := vx_keep h0 e1 hS hA hf hL hF
    obtain ⟨t2, a1, b1⟩ := kk r u t T'.heap (locs ++ L) e1.symm (by rw [← e2]; exact X'.warmed.alike) hp hb k1 k2 k3 T' rfl X'
    exact ⟨t2, st t2 a1, b1⟩
  · obtain ⟨k1, k2, k3⟩ := vx_keep h0 e1 hS hAX hf hL hF
    obtain ⟨t2, a1, b1⟩ := kx E ce q u t T'.heap (locs ++ L) e1.symm (by rw [← e2]; exact X'.warmed.alike) hp hb k1 k2 k3 (by rw [e1]; exact hce) hcv hcl T' rfl X'
    exact ⟨t2, st.trans a1, b1⟩
theorem vx_calld {S SX : Type} {post : UInt64 → S → Prop} {px : SX → Prop} {B : S → State → Prop} {BX : String → SX → State → Prop} {AX : Nat → Prop} (hr : vx_Run p l e R s m args below meth c H locs cells slots mc ms (F0 m pc ls st0) rest (va_Qd post B A1 a) (vx_X px BX AX) free) (hS : va_S A0 H0 H locs) (hA : ∀ q, q < H.size → A1 q → A0 q) (hf : ∀ q, free q → A0 q) (hAX : ∀ q, q < H.size → AX q → A0 q)
    (kx : ∀ (E : String) (ce : Cell) (q9 : Addr) (u : SX) (t : State) (H1 : Heap) (locs1 : List Loc), t.heap = H1 → s.vm.Alike t.vm → px u → BX E u t → H.size ≤ H1.size → (∀ q : Nat, q < H.size → ¬ AX q → H1[q]? = H[q]?) → va_S A0 H0 H1 locs1 → H1[q9]? = some ce → ce.vm = .none → s.vm.findClass E = some ce.cls → vx_W p l e R s m args below meth c H1 locs1 (cells + mc) (slots + ms) Q (F0 m pc ls rest) q9)
    (kk : ∀ (r : UInt64) (u : S) (t : State) (H1 : Heap) (locs1 : List Loc), t.heap = H1 → s.vm.Alike t.vm → post r u → B u t → H.size ≤ H1.size → (∀ q : Nat, q < H.size → ¬ A1 q → H1[q]? = H[q]?) → va_S A0 H0 H1 locs1 → W p l e R s m args below meth c H1 locs1 (cells + mc) (slots + ms) Q (F0 m (pc + 3) ls (.double r :: rest))) : W p l e R s m args below meth c H locs cells slots Q (F0 m pc ls st0) := by
  intro T hT X
  rcases hr T hT X with ⟨v, st₀, t, T', L, h0, X', hL, e1, e2, ⟨⟨r, u, hv, hp, hb⟩, hF⟩, st⟩ | ⟨q, st₀, t, T', L, E, ce, h0, X', hL, e1, e2, ⟨u, hp, hb, hF⟩, hce, hcv, hcl, st⟩
  · cases hv
    obtain ⟨k1, k2, k3⟩ := vx_keep h0 e1 hS hA hf hL hF
    obtain ⟨t2, a1, b1⟩ := kk r u t T'.heap (locs ++ L) e1.symm (by rw [← e2]; exact X'.warmed.alike) hp hb k1 k2 k3 T' rfl X'
    exact ⟨t2, st t2 a1, b1⟩
  · obtain ⟨k1, k2, k3⟩ := vx_keep h0 e1 hS hAX hf hL hF
    obtain ⟨t2, a1, b1⟩ := kx E ce q u t T'.heap (locs ++ L) e1.symm (by rw [← e2]; exact X'.warmed.alike) hp hb k1 k2 k3 (by rw [e1]; exact hce) hcv hcl T' rfl X'
    exact ⟨t2, st.trans a1, b1⟩
theorem vx_callv {S SX : Type} {post : S → Prop} {px : SX → Prop} {B : S → State → Prop} {BX : String → SX → State → Prop} {AX : Nat → Prop} (hr : vx_Run p l e R s m args below meth c H locs cells slots mc ms (F0 m pc ls st0) rest (va_Qv post B A1 a) (vx_X px BX AX) free) (hS : va_S A0 H0 H locs) (hA : ∀ q, q < H.size → A1 q → A0 q) (hf : ∀ q, free q → A0 q) (hAX : ∀ q, q < H.size → AX q → A0 q)
    (kx : ∀ (E : String) (ce : Cell) (q9 : Addr) (u : SX) (t : State) (H1 : Heap) (locs1 : List Loc), t.heap = H1 → s.vm.Alike t.vm → px u → BX E u t → H.size ≤ H1.size → (∀ q : Nat, q < H.size → ¬ AX q → H1[q]? = H[q]?) → va_S A0 H0 H1 locs1 → H1[q9]? = some ce → ce.vm = .none → s.vm.findClass E = some ce.cls → vx_W p l e R s m args below meth c H1 locs1 (cells + mc) (slots + ms) Q (F0 m pc ls rest) q9)
    (kk : ∀ (u : S) (t : State) (H1 : Heap) (locs1 : List Loc), t.heap = H1 → s.vm.Alike t.vm → post u → B u t → H.size ≤ H1.size → (∀ q : Nat, q < H.size → ¬ A1 q → H1[q]? = H[q]?) → va_S A0 H0 H1 locs1 → W p l e R s m args below meth c H1 locs1 (cells + mc) (slots + ms) Q (F0 m (pc + 3) ls (rest))) : W p l e R s m args below meth c H locs cells slots Q (F0 m pc ls st0) := by
  intro T hT X
  rcases hr T hT X with ⟨v, st₀, t, T', L, h0, X', hL, e1, e2, ⟨⟨u, hv, hp, hb⟩, hF⟩, st⟩ | ⟨q, st₀, t, T', L, E, ce, h0, X', hL, e1, e2, ⟨u, hp, hb, hF⟩, hce, hcv, hcl, st⟩
  · cases hv
    obtain ⟨k1, k2, k3⟩ := vx_keep h0 e1 hS hA hf hL hF
    obtain ⟨t2, a1, b1⟩ := kk u t T'.heap (locs ++ L) e1.symm (by rw [← e2]; exact X'.warmed.alike) hp hb k1 k2 k3 T' rfl X'
    exact ⟨t2, st t2 a1, b1⟩
  · obtain ⟨k1, k2, k3⟩ := vx_keep h0 e1 hS hAX hf hL hF
    obtain ⟨t2, a1, b1⟩ := kx E ce q u t T'.heap (locs ++ L) e1.symm (by rw [← e2]; exact X'.warmed.alike) hp hb k1 k2 k3 (by rw [e1]; exact hce) hcv hcl T' rfl X'
    exact ⟨t2, st.trans a1, b1⟩
theorem vx_catch {own name : String} {E : String} {ce : Cell} {q : Addr} (hown : s.vm.findClass own = some m.cls) (pre : List ExceptionTableEntry) (x : ExceptionTableEntry) (suf : List ExceptionTableEntry) (hsplit : c.exceptionTable.toList = pre ++ x :: suf)
    (hpass : ∀ z ∈ pre, covers z pc = false ∨ (z.catchType ≠ 0 ∧ ∃ nm : String, (Cond.classLink own z.catchType nm).before args s = true ∧ va_Nc E nm s)) (hx : covers x pc = true) (h0 : x.catchType ≠ 0)
    (hlink : (Cond.classLink own x.catchType name).before args s = true) (hcast : (Cond.castable E name).before args s = true) (hcell : H[q]? = some ce) (hv : ce.vm = .none) (hcl : s.vm.findClass E = some ce.cls)
    (kk : W p l e R s m args below meth c H locs cells slots Q (F0 m x.handlerPc ls [.ref q])) : vx_W p l e R s m args below meth c H locs cells slots Q (F0 m pc ls rest) q := by
  intro T hT X
  have hpl : e.platform.magicAccessors = ({} : Platform).magicAccessors := by rw [X.admits.platform]
  obtain ⟨c3, c4, hc3, hc4, hasg⟩ := Cond.castable_spec hcast
  cases Option.some.inj (hc3.symm.trans hcl)
  obtain ⟨c5, hc5, hcl5⟩ := Cond.classLink_spec hown hlink e.platform hpl
  cases Option.some.inj (hc4.symm.trans hc5)
  obtain ⟨vm', X', st⟩ := X.thenCaughtThrough q (g := F0 m pc ls rest) rfl (Steps.refl _) (by rw [hT]; exact hcell) (by rw [hv]; rfl) (by obtain ⟨k9, h9, -⟩ := Vm.findClass_spec hcl; exact ⟨k9, h9⟩) pre x suf hsplit
    (fun z hz => by
      rcases hpass z hz with h | ⟨hz0, nm, hl1, hn1⟩
      · exact Or.inl h
      · obtain ⟨c6, hc6, hcl6⟩ := Cond.classLink_spec hown hl1 e.platform hpl
        obtain ⟨a8, b8, h1, h2, h3⟩ := hn1
        cases Option.some.inj (h1.symm.trans hcl)
        cases Option.some.inj (h2.symm.trans hc6)
        exact Or.inr ⟨hz0, _, hcl6, h3⟩) hx (Or.inr ⟨h0, c4, hcl5, hasg⟩)
  obtain ⟨t, a1, b1⟩ := kk (T.setVm vm') hT X'
  exact ⟨t, st.trans a1, b1⟩
end Rows
section Ends
variable {p : Program} {l : Launch} {e : Env} {R : Room} {s : State} {m : MethodId} {args : Array Value} {below : List Frame} {meth : Method} {c : Code} {H : Heap} {locs : List Loc} {cells slots : Nat} {Q : State → Prop}
variable {mc ms : Nat} {free : Addr → Prop} {A0 A1 : Nat → Prop} {H0 : Heap} {a : Array Value} {ls : Array Slot} {st0 rest : List Value}
variable {Qc : Array Value → State → Outcome → State → Prop} {XC : String → State → State → Prop}
def vx_MQ (below : List Frame) (Qc : Array Value → State → Outcome → State → Prop) (XC : String → State → State → Prop) (a : Array Value) (s : State) (mc ms : Nat) (free : Addr → Prop) : State → Prop := fun t =>
  ∃ o, t.status = .running ∧ Ended t below o ∧ vx_Q Qc XC mc ms free a s o t
theorem vx_ret {g : JFrame} {mc ms : Nat} (k : W p l e R s m args below meth c H locs cells slots (MQ below Qc args s mc ms free) g) : W p l e R s m args below meth c H locs cells slots (vx_MQ below Qc XC args s mc ms free) g := by
  intro T hT X
  obtain ⟨t, a1, o, b1, b2, b3, b4⟩ := k T hT X
  exact ⟨t, a1, o, b1, b2, Or.inl ⟨b3, b4⟩⟩
theorem vx_widen {g : JFrame} {q : Addr} {k n : Nat} (h1 : cells ≤ k) (h2 : slots ≤ n) (kk : vx_W p l e R s m args below meth c H locs k n Q g q) : vx_W p l e R s m args below meth c H locs cells slots Q g q := fun T hT X => kk T hT (stand_widen X h1 h2)
theorem vx_out {pc : Nat} {E : String} {ce : Cell} {q : Addr} {mc ms : Nat} (hout : ∀ x ∈ c.exceptionTable.toList, covers x pc = false) (hlocks : meth.locks = false) (hcell : H[q]? = some ce) (hv : ce.vm = .none) (hcl : s.vm.findClass E = some ce.cls)
    (hx : ∀ t : State, t.heap = H → s.vm.Alike t.vm → XC E s t) (hf : ∀ z ∈ locs, free z.base) (hc : cells ≤ mc) (hs : slots ≤ ms) :
    vx_W p l e R s m args below meth c H locs cells slots (vx_MQ below Qc XC args s mc ms free) (F0 m pc ls rest) q := by
  intro T hT X
  obtain ⟨st1, hrun, hend, hW, hsm⟩ := X.leaveThrown q (g := F0 m pc ls rest) rfl rfl rfl hout hlocks
  have hcell9 : (T.setFrames (.throwing q :: below)).heap[q]? = some ce := by
    show T.heap[q]? = some ce
    rw [hT]; exact hcell
  exact ⟨_, st1, .threw q, hrun, hend, Or.inr ⟨q, rfl, E, ce, locs, hx _ hT hW.alike, hcell9, hv, hcl, hW, hsm.mono hc hs, hf⟩⟩
theorem vx_frame {U : State} {k n : Nat} (h : s.sameButNew ({ U with vm := s.vm } : State) locs k n) : s.heap.size ≤ U.heap.size ∧ ∀ q : Nat, q < s.heap.size → (∀ z ∈ locs, z.base ≠ q) → U.heap[q]? = s.heap[q]? := by
  obtain ⟨-, h2, -, -, -, h6⟩ := h
  refine ⟨h2, fun q hq hz => ?_⟩
  obtain ⟨c9, e1, e2, e3, e4⟩ := h6 q _ (Array.getElem?_eq_getElem hq)
  have hs : c9.slots = (s.heap[q]).slots := Array.ext_getElem? fun i => e4 i fun hm => hz _ hm rfl
  have h9 : c9 = s.heap[q] := by
    rw [hs] at e2
    exact e2
  have e5 : U.heap[q]? = some c9 := e1
  rw [e5, h9, Array.getElem?_eq_getElem hq]
def vx_no (w : Cond) : Bool := decide (w ≠ .isRef (.static Bundle.tN "UNASSIGNED_STACK" Bundle.steD)) && decide (w ≠ .isRef (.static Bundle.tN "SUPPRESSED_SENTINEL" Bundle.listD)) && decide (w ≠ .laysStatic Bundle.tN "UNASSIGNED_STACK" Bundle.steD) && decide (w ≠ .laysStatic Bundle.tN "SUPPRESSED_SENTINEL" Bundle.listD)
def vx_at0 (own : String) (ic : Nat) (X : String) (names : List String) : List Cond := (Bundle.ownAtoms0 own ic X names).filter vx_no
def vx_atS (own : String) (ic : Nat) (X : String) (names : List String) : List Cond := (Bundle.ownAtoms own ic X names).filter vx_no
def vx_ot (w : Cond) : Bool := w.onTables || goodWord w
theorem vx_ot_at {args a' : Array Value} {s U : State} {w : Cond} (hW : s.WarmedH U.vm) (hvm : s.vm = U.vm) (hg : vx_ot w = true) (h : w.before args s = true) : w.before a' U = true := by
  simp only [vx_ot, Bool.or_eq_true] at hg
  rcases hg with hg | hg
  · exact va_tabs hg hvm h
  · exact word_at hW (good_of_word hg) h
theorem vx_hat {args : Array Value} {s : State} {L B : List Cond} (h1 : ∀ w ∈ L.filter goodWord, w.before args s = true) (h2 : ∀ w ∈ L.filter (fun w => !goodWord w), w ∈ B) (h3 : ∀ w ∈ B, w.before args s = true) : ∀ w ∈ L, w.before args s = true := by
  intro w hw
  by_cases g : goodWord w = true
  · exact h1 w (List.mem_filter.mpr ⟨hw, g⟩)
  · refine h3 w (h2 w (List.mem_filter.mpr ⟨hw, ?_⟩))
    show (!goodWord w) = true
    cases hgw : goodWord w
    · rfl
    · exact absurd hgw g
theorem vx_c {args : Array Value} {s : State} {w : Cond} {B : List Cond} (h : w.before args s = true) (t : ∀ w ∈ B, w.before args s = true) : ∀ w' ∈ w :: B, w'.before args s = true := fun w' h' => (List.mem_cons.mp h').elim (fun e => by rw [e]; exact h) (t w')
theorem vx_n {args : Array Value} {s : State} : ∀ w ∈ ([] : List Cond), w.before args s = true := fun _ h => nomatch h
theorem vx_own {args : Array Value} {s : State} {L : List Cond} (h1 : ∀ w ∈ L.filter vx_no, w.before args s = true)
    (hU : (Cond.isRef (.static Bundle.tN "UNASSIGNED_STACK" Bundle.steD)).before args s = true) (hN : (Cond.isRef (.static Bundle.tN "SUPPRESSED_SENTINEL" Bundle.listD)).before args s = true)
    (lU : (Cond.laysStatic Bundle.tN "UNASSIGNED_STACK" Bundle.steD).before args s = true) (lN : (Cond.laysStatic Bundle.tN "SUPPRESSED_SENTINEL" Bundle.listD).before args s = true) : ∀ w ∈ L, w.before args s = true := by
  intro w hw
  by_cases e1 : w = .isRef (.static Bundle.tN "UNASSIGNED_STACK" Bundle.steD)
  · rw [e1]; exact hU
  · by_cases e2 : w = .isRef (.static Bundle.tN "SUPPRESSED_SENTINEL" Bundle.listD)
    · rw [e2]; exact hN
    · by_cases e3 : w = .laysStatic Bundle.tN "UNASSIGNED_STACK" Bundle.steD
      · rw [e3]; exact lU
      · by_cases e4 : w = .laysStatic Bundle.tN "SUPPRESSED_SENTINEL" Bundle.listD
        · rw [e4]; exact lN
        · exact h1 w (List.mem_filter.mpr ⟨hw, by unfold vx_no; rw [decide_eq_true e1, decide_eq_true e2, decide_eq_true e3, decide_eq_true e4]; rfl⟩)
def vx_L (C n d : String) (A : Nat → Prop) (U : State) (H : Heap) : Prop := ∃ (c : ClassId) (k : Class) (i : Nat) (f : Field) (a : Nat) (cell : Cell), U.vm.findClass C = some c ∧ U.fieldFound? C n d = some (c, k, i, f) ∧ f.isStatic = true ∧ k.statics = some a ∧ H[a]? = some cell ∧ cell.vm.isStatics = true ∧ cell.cls = c ∧ f.slot < cell.slots.size ∧ k.staticTypes[f.slot]? = some f.type ∧ ¬ A a
theorem vx_L.moved {C n d : String} {A : Nat → Prop} {u U : State} {H : Heap} (hvm : u.vm.Alike U.vm) (h : vx_L C n d A u H) : vx_L C n d A U H := by
  obtain ⟨c, k, i, f, a, cell, h1, h2, h3, h4, h5, h6, h7, h8, h9, h10⟩ := h
  obtain ⟨k', hi', he⟩ := State.fieldFound?_setVm hvm h2
  exact ⟨c, k', i, f, a, cell, by rw [hvm.findClass]; exact h1, hi', h3, by rw [he]; exact h4, h5, h6, h7, h8, by rw [he]; exact h9, h10⟩
theorem vx_L.kept {C n d : String} {A : Nat → Prop} {U : State} {H H1 : Heap} (h : vx_L C n d A U H) (hq : ∀ a : Nat, a < H.size → ¬ A a → H1[a]? = H[a]?) : vx_L C n d A U H1 := by
  obtain ⟨c, k, i, f, a, cell, h1, h2, h3, h4, h5, h6, h7, h8, h9, h10⟩ := h
  exact ⟨c, k, i, f, a, cell, h1, h2, h3, h4, by rw [hq a (Array.getElem?_eq_some_iff.mp h5).1 h10]; exact h5, h6, h7, h8, h9, h10⟩
theorem vx_L.narrow {C n d : String} {A B : Nat → Prop} {U : State} {H : Heap} (h : vx_L C n d A U H) (hAB : ∀ q, B q → A q) : vx_L C n d B U H := by
  obtain ⟨c, k, i, f, a, cell, h1, h2, h3, h4, h5, h6, h7, h8, h9, h10⟩ := h
  exact ⟨c, k, i, f, a, cell, h1, h2, h3, h4, h5, h6, h7, h8, h9, fun z => h10 (hAB _ z)⟩
theorem vx_L.word {C n d : String} {A : Nat → Prop} {s : State} {args : Array Value} (h : vx_L C n d A s s.heap) : (Cond.laysStatic C n d).before args s = true := by
  obtain ⟨c, k, i, f, a, cell, h1, h2, h3, h4, h5, h6, h7, h8, h9, -⟩ := h
  show (Cond.laysStatic C n d).holds args s none s [] = true
  exact Cond.laysStatic_of h1 h2 h3 h4 h5 h6 h7 h8 h9
def vx_Zq (C n d : String) (A : Nat → Prop) (U : State) (H : Heap) : Prop := va_Zq C n d A U H ∧ vx_L C n d A U H
theorem vx_Zq.moved {C n d : String} {A : Nat → Prop} {u U : State} {H : Heap} (hvm : u.vm.Alike U.vm) (h : vx_Zq C n d A u H) : vx_Zq C n d A U H := ⟨va_Zq.moved hvm h.1, vx_L.moved hvm h.2⟩
theorem vx_Zq.kept {C n d : String} {A : Nat → Prop} {U : State} {H H1 : Heap} (h : vx_Zq C n d A U H) (hq : ∀ a : Nat, a < H.size → ¬ A a → H1[a]? = H[a]?) : vx_Zq C n d A U H1 := ⟨va_Zq.kept h.1 hq, vx_L.kept h.2 hq⟩
theorem vx_Zq.narrow {C n d : String} {A B : Nat → Prop} {U : State} {H : Heap} (h : vx_Zq C n d A U H) (hAB : ∀ q, B q → A q) : vx_Zq C n d B U H := ⟨va_Zq.narrow h.1 hAB, vx_L.narrow h.2 hAB⟩
theorem vx_Zqof {args : Array Value} {s : State} {C n d : String} {A : Nat → Prop} (hl : (Cond.laysStatic C n d).before args s = true) (hini : (Cond.initialized C).before args s = true) (h : (Cond.isRef (.static C n d)).before args s = true) (hA : ∀ a : Nat, a < s.heap.size → ¬ A a) : vx_Zq C n d A s s.heap := by
  refine ⟨va_Zqof hl hini h hA, ?_⟩
  obtain ⟨c, k, i, f, a, cell, h1, h2, h3, h4, h5, h6, h7, h8, h9⟩ := Cond.laysStatic_spec hl
  exact ⟨c, k, i, f, a, cell, h1, h2, h3, h4, h5, h6, h7, h8, h9, hA a (Array.getElem?_eq_some_iff.mp h5).1⟩
theorem vx_isRef {C n d : String} {v : Value} {A : Nat → Prop} {s : State} {args : Array Value} (h : va_Z C n d v A s s.heap) (hv : v.isRef = true) : (Cond.isRef (.static C n d)).before args s = true := by
  obtain ⟨cf, kf, fi, f, a, cell, h1, h2, h3, h4, h5, h6, h7, -⟩ := h
  have he : (Term.static C n d).eval args s none [] s = some v := by
    simp [Term.eval, State.fieldNamed?, h1, h2, h4, h5, h6, h7]
  simp only [Cond.before, Cond.holds, Cond.value, he]
  cases v <;> simp_all [Value.isRef]
theorem vx_isRefq {C n d : String} {A : Nat → Prop} {s : State} {args : Array Value} (h : va_Zq C n d A s s.heap) : (Cond.isRef (.static C n d)).before args s = true := by
  rcases h with h | ⟨t, h⟩
  · exact vx_isRef h rfl
  · exact vx_isRef h rfl
theorem vx_rebase {T : State} (X : Stand p l e R s m args below meth c T locs cells slots) {R' : Room} (hf : R'.frames ≤ R.frames) (hl : R'.locals ≤ R.locals) (hc : cells + R'.cells ≤ R.cells) (hs : slots + R'.slots ≤ R.slots) :
    Stand p l e R' ((T.setVm s.vm).setFrames (.invoking m args :: below)) m args below meth c T [] 0 0 := by
  have htop : (T.setVm s.vm).topJava?.isSome := X.here.top
  have hF : ((T.setVm s.vm).setFrames (.invoking m args :: below)).frames = .invoking m args :: below := State.frames_setFrames _ (State.cur_lt_of_top htop)
  obtain ⟨g₀, hg0⟩ := Option.isSome_iff_exists.mp htop
  obtain ⟨r, hr⟩ := State.topJava?_eq_some.mp hg0
  have hl9 : e.platform.stackLimits (T.setVm s.vm).me = e.platform.stackLimits s.me := X.limits
  have hb9 : (T.setVm s.vm).me.stackBytes = s.me.stackBytes := X.bytes
  refine ⟨X.admits, X.cas, X.clock, hF, ?_, X.hears, X.method, X.code, X.here, X.tail, X.warmed, ?_, ?_, ?_⟩
  · have h := X.room
    have hU : ((T.setVm s.vm).setFrames (.invoking m args :: below)).localsInUse = s.localsInUse := by
      rw [State.localsInUse_invoking hF (meth := meth) (c := c) X.method X.code, State.localsInUse_invoking X.frames X.method X.code]
    simp only [State.hasRoom, Bool.and_eq_true, decide_eq_true_eq] at h ⊢
    obtain ⟨⟨⟨⟨h1, h2, h3, h4, h5, h6⟩, h7⟩, h8⟩, h9⟩ := h
    rw [X.frames, List.length_cons] at h2 h3
    have q1 := X.heapSize
    have q2 := X.used
    simp only [hF, hU, List.length_cons, State.stackLimits_setFrames, State.stackBytes_setFrames, hl9, hb9]
    refine ⟨⟨⟨⟨by omega, by omega, by omega, by omega, by omega, h6⟩, ?_⟩, ?_⟩, X.book⟩
    · show T.heap.size + R'.cells ≤ e.platform.maxCells
      omega
    · show T.slotsUsed + R'.slots ≤ e.platform.maxSlots
      omega
  · rw [State.stackLimits_setFrames]; rfl
  · rw [State.stackBytes_setFrames]; rfl
  · refine ⟨?_, Nat.le_refl _, Nat.le_refl _, ?_, ?_, fun a c9 h9 => ⟨c9, h9, rfl, rfl, fun _ _ => rfl⟩⟩
    · obtain ⟨t, ht, -⟩ := State.frames_cons hr
      show T.setVm s.vm = { ((T.setVm s.vm).setFrames (.invoking m args :: below)).setFrames (T.setVm s.vm).frames with heap := T.heap, slotsUsed := T.slotsUsed }
      rw [State.setFrames_setFrames, State.setFrames_self ht]
      rfl
    · show T.slotsUsed = T.slotsUsed + ((T.heap.toList.drop T.heap.size).map (·.slots.size)).sum
      rw [List.drop_eq_nil_of_le (Nat.le_of_eq Array.length_toList)]
      rfl
    · show ((T.heap.toList.drop T.heap.size).map (·.slots.size)).sum ≤ 0
      rw [List.drop_eq_nil_of_le (Nat.le_of_eq Array.length_toList)]
      exact Nat.le_refl _
theorem vx_throw0 {cc : ByteArray} {pc : Nat} (hexec : p.tables.exec = Jvm.exec) (hb : c.code = cc) (hl : l.stackTraces = false) {own cls : String} {names : List String} {ik ic mc ms : Nat} {A : Nat → Prop}
    (hown : s.vm.findClass own = some m.cls) (hcls : Bundle.fit cls = true) (hnames : ∀ n ∈ names, Bundle.fit n = true)
    (hk : (Cond.classLink own ik cls).before args s = true) (hini : (Cond.initialized cls).before args s = true) (hat : ∀ w ∈ vx_at0 own ic cls names, w.before args s = true)
    (hgood : ∀ w ∈ Cond.classLink own ik cls :: Cond.initialized cls :: vx_at0 own ic cls names, vx_ot w = true)
    (hU : vx_Zq Bundle.tN "UNASSIGNED_STACK" Bundle.steD A s s.heap) (hN : vx_Zq Bundle.tN "SUPPRESSED_SENTINEL" Bundle.listD A s s.heap) (hS : va_S A s.heap H locs) (hsize : ls.size = c.maxLocals)
    (d0 : decode cc pc = .ok (.new ik, 3)) (d3 : decode cc (pc + 3) = .ok (.dup, 1)) (d4 : decode cc (pc + 4) = .ok (.invokespecial ic, 3)) (d7 : decode cc (pc + 7) = .ok (.athrow, 1))
    (hout : ∀ x ∈ c.exceptionTable.toList, covers x (pc + 7) = false)
    (hRframes : names.length + 3 < R.frames) (hRlocals : (rest.map fun v => v.category).sum + (13 * (names.length + 1) + 42) ≤ R.locals) (hRcells : cells + 1 ≤ R.cells) (hRslots : slots + 6 ≤ R.slots) (hlocks : meth.locks = false)
    (hx : ∀ t : State, s.vm.Alike t.vm → H.size ≤ t.heap.size → (∀ q : Nat, q < H.size → t.heap[q]? = H[q]?) → XC cls s t)
    (hf : ∀ z ∈ locs, free z.base) (hc : cells + 1 ≤ mc) (hs : slots + 6 ≤ ms) :
    W p l e R s m args below meth c H locs cells slots (vx_MQ below Qc XC args s mc ms free) (F0 m pc ls rest) := by
  intro T hT X
  have htr : e.platform.stackTraces = false := (show e.platform.stackTraces = l.stackTraces by rw [X.admits.platform]).trans hl
  have Y := vx_rebase X (R' := { frames := R.frames, locals := R.locals, cells := 1, slots := 6 }) (Nat.le_refl _) (Nat.le_refl _) hRcells hRslots
  obtain ⟨s', hA⟩ : ∃ z, z = (T.setVm s.vm).setFrames (.invoking m args :: below) := ⟨_, rfl⟩
  rw [← hA] at Y
  have hvm : s'.vm = s.vm := by rw [hA]; rfl
  have hhp : s'.heap = H := by rw [hA]; exact hT
  have hW0 : s.WarmedH s'.vm := by rw [hvm]; exact State.WarmedH.refl s
  have hat' : ∀ w ∈ vx_at0 own ic cls names, w.before args s' = true := fun w hw => vx_ot_at hW0 hvm.symm (hgood w (List.mem_cons_of_mem _ (List.mem_cons_of_mem _ hw))) (hat w hw)
  have hk' : (Cond.classLink own ik cls).before args s' = true := vx_ot_at hW0 hvm.symm (hgood _ List.mem_cons_self) hk
  have hini' : (Cond.initialized cls).before args s' = true := vx_ot_at hW0 hvm.symm (hgood _ (List.mem_cons_of_mem _ List.mem_cons_self)) hini
  have hU' : vx_Zq Bundle.tN "UNASSIGNED_STACK" Bundle.steD A s' s'.heap := by rw [hhp]; exact vx_Zq.moved hW0.alike (hU.kept hS.2.1)
  have hN' : vx_Zq Bundle.tN "SUPPRESSED_SENTINEL" Bundle.listD A s' s'.heap := by rw [hhp]; exact vx_Zq.moved hW0.alike (hN.kept hS.2.1)
  have h : ∀ w ∈ Bundle.ownAtoms0 own ic cls names, w.before args s' = true := vx_own hat' (vx_isRefq hU'.1) (vx_isRefq hN'.1) hU'.2.word hN'.2.word
  have hown' : s'.vm.findClass own = some m.cls := by rw [hvm]; exact hown
  have hins : (Cond.instantiable cls 6).before args s' = true := h _ (by simp [Bundle.ownAtoms0])
  obtain ⟨vm₁, cX, kX, hfX, hkX, -, -, X₁, st1⟩ := Y.newCold hexec (own := own) (C := cls) (index := ik) (n := 6) hown' hk' hins hini'
    (g := F0 m pc ls rest) rfl (by rw [hb]; exact d0) (Nat.le_refl _) (Nat.le_refl _)
  generalize hT1 : (T.setVm vm₁).pushCell { cls := cX, slots := kX.instanceTypes.map defaultValue, vm := .none } = T1 at X₁ st1
  have hcat : (Value.ref T.heap.size).category = 1 := rfl
  have hcellA : T1.heap[T.heap.size]? = some (freshCell cX kX) := by rw [← hT1]; exact State.heap_pushCell_size _ _
  have d3' : decode c.code (pc + 3) = .ok (.dup, 1) := by rw [hb]; exact d3
  obtain ⟨U, hsteps, hrun, hend, hW, hsame, ce, hce, hO⟩ := X₁.ctorThrow0 hexec htr (own := own) (cls := cls) (names := names) (ic := ic) hown' hcls hnames h (fun x hx => nomatch hx) hfX hkX hcellA (by rw [hhp, hT]; exact Nat.le_refl _)
    (g := { method := m, pc := pc + 4, locals := ls, stack := .ref T.heap.size :: .ref T.heap.size :: rest, locked := none }) rfl hsize rfl rfl (rest := rest) rfl
    (by rw [hb]; exact d4) (by rw [hb]; exact d7) hout hRframes (by simp only [List.map_cons, List.sum_cons, hcat]; omega) hlocks
  obtain ⟨f1, f2⟩ := vx_frame hsame
  rw [hhp] at f1 f2
  have hWs : s.WarmedH U.vm := State.WarmedH.trans hW0 hW
  have hcl : s.vm.findClass cls = some ce.cls := by
    have h9 := hO.cls
    rw [hvm] at h9
    exact h9
  have hall : s.sameButNew ({ U with vm := s.vm } : State) locs mc ms := by
    subst hA
    obtain ⟨e1, e2⟩ := hsame
    rw [State.setFrames_setFrames] at e1
    have h2 : (T.setVm s.vm).sameButNew ({ U with vm := s.vm } : State) [] (0 + 1) (0 + 6) := ⟨e1, e2⟩
    have h3 := X.same.trans h2
    rw [List.append_nil] at h3
    exact h3.mono hc hs
  refine ⟨U, ?_, .threw T.heap.size, hrun, hend, Or.inr ⟨T.heap.size, rfl, cls, ce, locs, hx U hWs.alike f1 (fun q hq => f2 q hq (fun z hz => nomatch hz)), hce, hO.vm, hcl, hWs, hall, hf⟩⟩
  refine st1 _ ?_
  show Steps p.tables e below (T1.setTop { method := m, pc := pc + 3, locals := ls, stack := .ref T.heap.size :: rest, locked := none }) _
  jvm_step X₁.here [X₁.here.top, hexec, d3', Value.category]
  exact hsteps
theorem vx_throwS {cc : ByteArray} {pc : Nat} (hexec : p.tables.exec = Jvm.exec) (hb : c.code = cc) (hl : l.stackTraces = false) {own cls text : String} {names : List String} {ik is ic mc ms sa : Nat} {A : Nat → Prop}
    (hown : s.vm.findClass own = some m.cls) (hcls : Bundle.fit cls = true) (hnames : ∀ n ∈ names, Bundle.fit n = true)
    (hk : (Cond.classLink own ik cls).before args s = true) (hini : (Cond.initialized cls).before args s = true) (hstr : vk_R own is text sa s) (hat : ∀ w ∈ vx_atS own ic cls names, w.before args s = true)
    (hgood : ∀ w ∈ Cond.classLink own ik cls :: Cond.initialized cls :: vx_atS own ic cls names, vx_ot w = true)
    (hU : vx_Zq Bundle.tN "UNASSIGNED_STACK" Bundle.steD A s s.heap) (hN : vx_Zq Bundle.tN "SUPPRESSED_SENTINEL" Bundle.listD A s s.heap) (hS : va_S A s.heap H locs) (hsize : ls.size = c.maxLocals)
    (d0 : decode cc pc = .ok (.new ik, 3)) (d3 : decode cc (pc + 3) = .ok (.dup, 1)) (d4 : decode cc (pc + 4) = .ok (.ldc is, 2)) (d6 : decode cc (pc + 6) = .ok (.invokespecial ic, 3)) (d9 : decode cc (pc + 9) = .ok (.athrow, 1))
    (hout : ∀ x ∈ c.exceptionTable.toList, covers x (pc + 9) = false)
    (hRframes : names.length + 3 < R.frames) (hRlocals : (rest.map fun v => v.category).sum + (13 * (names.length + 1) + 43) ≤ R.locals) (hRcells : cells + 1 ≤ R.cells) (hRslots : slots + 6 ≤ R.slots) (hlocks : meth.locks = false)
    (hx : ∀ t : State, s.vm.Alike t.vm → H.size ≤ t.heap.size → (∀ q : Nat, q < H.size → t.heap[q]? = H[q]?) → XC cls s t)
    (hf : ∀ z ∈ locs, free z.base) (hc : cells + 1 ≤ mc) (hs : slots + 6 ≤ ms) :
    W p l e R s m args below meth c H locs cells slots (vx_MQ below Qc XC args s mc ms free) (F0 m pc ls rest) := by
  intro T hT X
  have htr : e.platform.stackTraces = false := (show e.platform.stackTraces = l.stackTraces by rw [X.admits.platform]).trans hl
  have Y := vx_rebase X (R' := { frames := R.frames, locals := R.locals, cells := 1, slots := 6 }) (Nat.le_refl _) (Nat.le_refl _) hRcells hRslots
  obtain ⟨s', hA⟩ : ∃ z, z = (T.setVm s.vm).setFrames (.invoking m args :: below) := ⟨_, rfl⟩
  rw [← hA] at Y
  have hvm : s'.vm = s.vm := by rw [hA]; rfl
  have hhp : s'.heap = H := by rw [hA]; exact hT
  have hW0 : s.WarmedH s'.vm := by rw [hvm]; exact State.WarmedH.refl s
  have hat' : ∀ w ∈ vx_atS own ic cls names, w.before args s' = true := fun w hw => vx_ot_at hW0 hvm.symm (hgood w (List.mem_cons_of_mem _ (List.mem_cons_of_mem _ hw))) (hat w hw)
  have hk' : (Cond.classLink own ik cls).before args s' = true := vx_ot_at hW0 hvm.symm (hgood _ List.mem_cons_self) hk
  have hini' : (Cond.initialized cls).before args s' = true := vx_ot_at hW0 hvm.symm (hgood _ (List.mem_cons_of_mem _ List.mem_cons_self)) hini
  have hU' : vx_Zq Bundle.tN "UNASSIGNED_STACK" Bundle.steD A s' s'.heap := by rw [hhp]; exact vx_Zq.moved hW0.alike (hU.kept hS.2.1)
  have hN' : vx_Zq Bundle.tN "SUPPRESSED_SENTINEL" Bundle.listD A s' s'.heap := by rw [hhp]; exact vx_Zq.moved hW0.alike (hN.kept hS.2.1)
  have h : ∀ w ∈ Bundle.ownAtoms own ic cls names, w.before args s' = true := vx_own hat' (vx_isRefq hU'.1) (vx_isRefq hN'.1) hU'.2.word hN'.2.word
  have hown' : s'.vm.findClass own = some m.cls := by rw [hvm]; exact hown
  have hins : (Cond.instantiable cls 6).before args s' = true := h _ (by simp [Bundle.ownAtoms])
  obtain ⟨vm₁, cX, kX, hfX, hkX, -, -, X₁, st1⟩ := Y.newCold hexec (own := own) (C := cls) (index := ik) (n := 6) hown' hk' hins hini'
    (g := F0 m pc ls rest) rfl (by rw [hb]; exact d0) (Nat.le_refl _) (Nat.le_refl _)
  generalize hT1 : (T.setVm vm₁).pushCell { cls := cX, slots := kX.instanceTypes.map defaultValue, vm := .none } = T1 at X₁ st1
  have hcat : (Value.ref T.heap.size).category = 1 := rfl
  have hcellA : T1.heap[T.heap.size]? = some (freshCell cX kX) := by rw [← hT1]; exact State.heap_pushCell_size _ _
  have d3' : decode c.code (pc + 3) = .ok (.dup, 1) := by rw [hb]; exact d3
  have d4' : decode c.code (pc + 4) = .ok (.ldc is, 2) := by rw [hb]; exact d4
  have hstr' : vk_R own is text sa s' := vk_R.warm hW0 hstr
  obtain ⟨U, hsteps, hrun, hend, hW, hsame, ce, hce, hO⟩ := X₁.ctorThrowS hexec htr (own := own) (cls := cls) (names := names) (ic := ic) hown' hcls hnames h (fun x hx => nomatch hx) hfX hkX hcellA (by rw [hhp, hT]; exact Nat.le_refl _) (msg := .ref sa) rfl
    (g := { method := m, pc := pc + 6, locals := ls, stack := .ref sa :: .ref T.heap.size :: .ref T.heap.size :: rest, locked := none }) rfl hsize rfl rfl (rest := rest) rfl
    (by rw [hb]; exact d6) (by rw [hb]; exact d9) hout hRframes (by simp only [List.map_cons, List.sum_cons, hcat]; omega) hlocks
  obtain ⟨f1, f2⟩ := vx_frame hsame
  rw [hhp] at f1 f2
  have hWs : s.WarmedH U.vm := State.WarmedH.trans hW0 hW
  have hcl : s.vm.findClass cls = some ce.cls := by
    have h9 := hO.cls
    rw [hvm] at h9
    exact h9
  have hall : s.sameButNew ({ U with vm := s.vm } : State) locs mc ms := by
    subst hA
    obtain ⟨e1, e2⟩ := hsame
    rw [State.setFrames_setFrames] at e1
    have h2 : (T.setVm s.vm).sameButNew ({ U with vm := s.vm } : State) [] (0 + 1) (0 + 6) := ⟨e1, e2⟩
    have h3 := X.same.trans h2
    rw [List.append_nil] at h3
    exact h3.mono hc hs
  refine ⟨U, ?_, .threw T.heap.size, hrun, hend, Or.inr ⟨T.heap.size, rfl, cls, ce, locs, hx U hWs.alike f1 (fun q hq => f2 q hq (fun z hz => nomatch hz)), hce, hO.vm, hcl, hWs, hall, hf⟩⟩
  refine st1 _ ?_
  show Steps p.tables e below (T1.setTop { method := m, pc := pc + 3, locals := ls, stack := .ref T.heap.size :: rest, locked := none }) _
  jvm_step X₁.here [X₁.here.top, hexec, d3', Value.category]
  exact X₁.ldcString hexec (own := own) (text := text) (index := is) (a := sa) hown' hstr'.1 hstr'.2
    (g := { method := m, pc := pc + 4, locals := ls, stack := .ref T.heap.size :: .ref T.heap.size :: rest, locked := none }) rfl d4' _ hsteps
theorem vx_throwSW {cc : ByteArray} {pc : Nat} (hexec : p.tables.exec = Jvm.exec) (hb : c.code = cc) (hl : l.stackTraces = false) {own cls text : String} {names : List String} {ik is ic mc ms sa : Nat} {A : Nat → Prop}
    (hown : s.vm.findClass own = some m.cls) (hcls : Bundle.fit cls = true) (hnames : ∀ n ∈ names, Bundle.fit n = true)
    (hk : (Cond.classLink own ik cls).before args s = true) (hini : (Cond.initialized cls).before args s = true) (hstr : vk_R own is text sa s) (hat : ∀ w ∈ vx_atS own ic cls names, w.before args s = true)
    (hgood : ∀ w ∈ Cond.classLink own ik cls :: Cond.initialized cls :: vx_atS own ic cls names, vx_ot w = true)
    (hU : vx_Zq Bundle.tN "UNASSIGNED_STACK" Bundle.steD A s s.heap) (hN : vx_Zq Bundle.tN "SUPPRESSED_SENTINEL" Bundle.listD A s s.heap) (hS : va_S A s.heap H locs) (hsize : ls.size = c.maxLocals)
    (d0 : decode cc pc = .ok (.new ik, 3)) (d3 : decode cc (pc + 3) = .ok (.dup, 1)) (d4 : decode cc (pc + 4) = .ok (.ldc_w is, 3)) (d7 : decode cc (pc + 7) = .ok (.invokespecial ic, 3)) (d10 : decode cc (pc + 10) = .ok (.athrow, 1))
    (hout : ∀ x ∈ c.exceptionTable.toList, covers x (pc + 10) = false)
    (hRframes : names.length + 3 < R.frames) (hRlocals : (rest.map fun v => v.category).sum + (13 * (names.length + 1) + 43) ≤ R.locals) (hRcells : cells + 1 ≤ R.cells) (hRslots : slots + 6 ≤ R.slots) (hlocks : meth.locks = false)
    (hx : ∀ t : State, s.vm.Alike t.vm → H.size ≤ t.heap.size → (∀ q : Nat, q < H.size → t.heap[q]? = H[q]?) → XC cls s t)
    (hf : ∀ z ∈ locs, free z.base) (hc : cells + 1 ≤ mc) (hs : slots + 6 ≤ ms) :
    W p l e R s m args below meth c H locs cells slots (vx_MQ below Qc XC args s mc ms free) (F0 m pc ls rest) := by
  intro T hT X
  have htr : e.platform.stackTraces = false := (show e.platform.stackTraces = l.stackTraces by rw [X.admits.platform]).trans hl
  have Y := vx_rebase X (R' := { frames := R.frames, locals := R.locals, cells := 1, slots := 6 }) (Nat.le_refl _) (Nat.le_refl _) hRcells hRslots
  obtain ⟨s', hA⟩ : ∃ z, z = (T.setVm s.vm).setFrames (.invoking m args :: below) := ⟨_, rfl⟩
  rw [← hA] at Y
  have hvm : s'.vm = s.vm := by rw [hA]; rfl
  have hhp : s'.heap = H := by rw [hA]; exact hT
  have hW0 : s.WarmedH s'.vm := by rw [hvm]; exact State.WarmedH.refl s
  have hat' : ∀ w ∈ vx_atS own ic cls names, w.before args s' = true := fun w hw => vx_ot_at hW0 hvm.symm (hgood w (List.mem_cons_of_mem _ (List.mem_cons_of_mem _ hw))) (hat w hw)
  have hk' : (Cond.classLink own ik cls).before args s' = true := vx_ot_at hW0 hvm.symm (hgood _ List.mem_cons_self) hk
  have hini' : (Cond.initialized cls).before args s' = true := vx_ot_at hW0 hvm.symm (hgood _ (List.mem_cons_of_mem _ List.mem_cons_self)) hini
  have hU' : vx_Zq Bundle.tN "UNASSIGNED_STACK" Bundle.steD A s' s'.heap := by rw [hhp]; exact vx_Zq.moved hW0.alike (hU.kept hS.2.1)
  have hN' : vx_Zq Bundle.tN "SUPPRESSED_SENTINEL" Bundle.listD A s' s'.heap := by rw [hhp]; exact vx_Zq.moved hW0.alike (hN.kept hS.2.1)
  have h : ∀ w ∈ Bundle.ownAtoms own ic cls names, w.before args s' = true := vx_own hat' (vx_isRefq hU'.1) (vx_isRefq hN'.1) hU'.2.word hN'.2.word
  have hown' : s'.vm.findClass own = some m.cls := by rw [hvm]; exact hown
  have hins : (Cond.instantiable cls 6).before args s' = true := h _ (by simp [Bundle.ownAtoms])
  obtain ⟨vm₁, cX, kX, hfX, hkX, -, -, X₁, st1⟩ := Y.newCold hexec (own := own) (C := cls) (index := ik) (n := 6) hown' hk' hins hini'
    (g := F0 m pc ls rest) rfl (by rw [hb]; exact d0) (Nat.le_refl _) (Nat.le_refl _)
  generalize hT1 : (T.setVm vm₁).pushCell { cls := cX, slots := kX.instanceTypes.map defaultValue, vm := .none } = T1 at X₁ st1
  have hcat : (Value.ref T.heap.size).category = 1 := rfl
  have hcellA : T1.heap[T.heap.size]? = some (freshCell cX kX) := by rw [← hT1]; exact State.heap_pushCell_size _ _
  have d3' : decode c.code (pc + 3) = .ok (.dup, 1) := by rw [hb]; exact d3
  have d4' : decode c.code (pc + 4) = .ok (.ldc_w is, 3) := by rw [hb]; exact d4
  have hstr' : vk_R own is text sa s' := vk_R.warm hW0 hstr
  obtain ⟨U, hsteps, hrun, hend, hW, hsame, ce, hce, hO⟩ := X₁.ctorThrowS hexec htr (own := own) (cls := cls) (names := names) (ic := ic) hown' hcls hnames h (fun x hx => nomatch hx) hfX hkX hcellA (by rw [hhp, hT]; exact Nat.le_refl _) (msg := .ref sa) rfl
    (g := { method := m, pc := pc + 7, locals := ls, stack := .ref sa :: .ref T.heap.size :: .ref T.heap.size :: rest, locked := none }) rfl hsize rfl rfl (rest := rest) rfl
    (by rw [hb]; exact d7) (by rw [hb]; exact d10) hout hRframes (by simp only [List.map_cons, List.sum_cons, hcat]; omega) hlocks
  obtain ⟨f1, f2⟩ := vx_frame hsame
  rw [hhp] at f1 f2
  have hWs : s.WarmedH U.vm := State.WarmedH.trans hW0 hW
  have hcl : s.vm.findClass cls = some ce.cls := by
    have h9 := hO.cls
    rw [hvm] at h9
    exact h9
  have hall : s.sameButNew ({ U with vm := s.vm } : State) locs mc ms := by
    subst hA
    obtain ⟨e1, e2⟩ := hsame
    rw [State.setFrames_setFrames] at e1
    have h2 : (T.setVm s.vm).sameButNew ({ U with vm := s.vm } : State) [] (0 + 1) (0 + 6) := ⟨e1, e2⟩
    have h3 := X.same.trans h2
    rw [List.append_nil] at h3
    exact h3.mono hc hs
  refine ⟨U, ?_, .threw T.heap.size, hrun, hend, Or.inr ⟨T.heap.size, rfl, cls, ce, locs, hx U hWs.alike f1 (fun q hq => f2 q hq (fun z hz => nomatch hz)), hce, hO.vm, hcl, hWs, hall, hf⟩⟩
  refine st1 _ ?_
  show Steps p.tables e below (T1.setTop { method := m, pc := pc + 3, locals := ls, stack := .ref T.heap.size :: rest, locked := none }) _
  jvm_step X₁.here [X₁.here.top, hexec, d3', Value.category]
  exact X₁.ldcStringW hexec (own := own) (text := text) (index := is) (a := sa) hown' hstr'.1 hstr'.2
    (g := { method := m, pc := pc + 4, locals := ls, stack := .ref T.heap.size :: .ref T.heap.size :: rest, locked := none }) rfl d4' _ hsteps
end Ends
section Bodies
variable {l : Launch}
theorem vx_ofW {y : MethodName} {ws ws' : List Cond} {rm : Room} {Pc : Array Value → State → Prop} {Qc : Array Value → State → Outcome → State → Prop} {XC : String → State → State → Prop} {mc ms : Nat} {free : Addr → Prop} {cc : ByteArray} {maxL : Nat} {ret : Option FieldType}
    (hy : plainName y.cls = true) (hw : ws = Cond.code y cc maxL ret :: ws')
    (body : ∀ p e s m args below meth c s₁, BodyLoose p l y (headSpec ws rm) cc maxL ret e s m args below meth c s₁ → c.maxLocals = maxL → (∀ x ∈ c.exceptionTable.toList, False) → Pc args s →
      W p l e (headSpec ws rm).room s m args below meth c s.heap [] 0 0 (vx_MQ below Qc XC args s mc ms free) (entryFrame m args maxL)) : vx_Met l y ws rm Pc Qc XC mc ms free := by
  refine MetFree.of_bodyS (code := cc) (maxLocals := maxL) (ret := ret) hy ?_ ?_
  · intro args s m h hn
    obtain ⟨meth, c, h1, h2, h3, h4, h5, h6, -, -⟩ := Cond.code_spec hn (atoms_spec (ws := ws) h _ (by rw [hw]; exact List.mem_cons_self))
    exact ⟨meth, c, h1, h2, h3, h4, h5, h6⟩
  · intro p e s m args below meth c s₁ B hml hP _
    have hh0 : s₁.heap = s.heap := by rw [B.state]; rfl
    have ht : ∀ x ∈ c.exceptionTable.toList, False := by
      obtain ⟨meth9, c9, h1, h2, -, -, -, -, h7, -⟩ := Cond.code_spec B.named (atoms_spec (ws := ws) B.pre _ (by rw [hw]; exact List.mem_cons_self))
      cases Option.some.inj (h1.symm.trans B.method)
      cases Option.some.inj (h2.symm.trans (Stand.of_body B).code)
      intro x hx
      rw [Array.isEmpty_iff.mp h7] at hx
      cases hx
    obtain ⟨t, a1, o, b1, b2, b3⟩ := body p e s m args below meth c s₁ B hml ht hP s₁ hh0 (Stand.of_body B)
    exact ⟨t, o, a1, b1, b2, b3⟩
theorem vx_table {p : Program} {x y : MethodName} {S : Spec} {cc bytes : ByteArray} {maxL maxL' : Nat} {ret ret' : Option FieldType} {e : Env} {s s₁ : State} {m : MethodId} {args : Array Value} {below : List Frame} {meth : Method} {c : Code} {hh : List (Nat × Nat × Nat × Nat)}
    (B : BodyLoose p l y S cc maxL ret e s m args below meth c s₁) (h : (Cond.codeWith y bytes maxL' ret' hh).before args s = true) : c.exceptionTable.toList = tableOf hh := by
  obtain ⟨m9, meth9, c9, hn9, h1, h2, -, -, h6, -⟩ := Cond.codeWith_spec h
  cases Option.some.inj (hn9.symm.trans B.named)
  cases Option.some.inj (h1.symm.trans B.method)
  cases Option.some.inj (h2.symm.trans (Stand.of_body B).code)
  rw [← h6, table_eq]
end Bodies
end VXA
section VXS
variable {p : Program} {l : Launch} {e : Env} {R : Room} {s : State} {m : MethodId} {args : Array Value} {below : List Frame} {meth : Method} {c : Code} {T : State} {H : Heap} {locs : List Loc} {cells slots : Nat}
abbrev vx_CSW (R : Room) (s : State) (args : Array Value) (own : String) (index : Nat) (y : MethodName) (bytes : ByteArray) (maxL : Nat) (ret : Option FieldType) (hh : List (Nat × Nat × Nat × Nat)) (ws : List Cond) (rm : Room) (mc ms n : Nat) : Prop :=
  (rm.cells = mc ∧ rm.slots = ms ∧ rm.frames + 1 ≤ R.frames ∧ 8 + (maxL + 11) + rm.locals ≤ R.locals ∧ (∀ w ∈ ws, ∀ (a' : Array Value) (U : State), s.WarmedH U.vm → w.before a' U = true) ∧ Cond.codeWith y bytes maxL ret hh ∈ ws) ∧
  (Cond.codeWith y bytes maxL ret hh).before args s = true ∧ (Cond.initialized y.cls).before args s = true ∧ (y.cls ≠ "java/lang/invoke/MethodHandle" ∧ y.cls ≠ "java/lang/invoke/VarHandle") ∧
  (∀ sig, parseMethodDescriptor y.desc = some sig → n = sig.parameters.length) ∧ (Cond.methodLink own index y).before args s = true ∧ (Cond.static y).before args s = true
theorem vx_cwSW {own : String} {index maxL mc ms : Nat} {y : MethodName} {bytes : ByteArray} {ret : Option FieldType} {hh : List (Nat × Nat × Nat × Nat)} {Ts ws ws' : List Cond} {rm : Room} (n : Nat) (ht : ∀ w ∈ Ts, w.before args s = true) (hT : GoodIn Ts (va_wsS own index y ws)) (hw : ws = Cond.codeWith y bytes maxL ret hh :: ws') (hrc : rm.cells = mc) (hrs : rm.slots = ms)
    (hd : y.cls ≠ "java/lang/invoke/MethodHandle" ∧ y.cls ≠ "java/lang/invoke/VarHandle" ∧ (parseMethodDescriptor y.desc).map (fun d => d.parameters.length) = some n) (hR : rm.frames + 1 ≤ R.frames ∧ 8 + (maxL + 11) + rm.locals ≤ R.locals) :
    vx_CSW R s args own index y bytes maxL ret hh ws rm mc ms n := by
  have ok : ∀ w ∈ va_wsS own index y ws, w.before args s = true := fun w h => ht w (hT w h).1
  have hG : GoodIn Ts ws := fun w h => hT w (by unfold va_wsS; exact List.mem_append_right _ h)
  have hc : Cond.codeWith y bytes maxL ret hh ∈ ws := by rw [hw]; exact List.mem_cons_self
  refine ⟨⟨hrc, hrs, hR.1, hR.2, pay_in ht hG, hc⟩, ht _ (hG _ hc).1, ok _ (by simp [va_wsS]), ⟨hd.1, hd.2.1⟩, fun sig h => ?_, ok _ (by simp [va_wsS]), ok _ (by simp [va_wsS])⟩
  have h2 := hd.2.2
  rw [h] at h2
  exact (Option.some.inj h2).symm
theorem vx_callSW (X : Stand p l e R s m args below meth c T locs cells slots) (hexec : p.tables.exec = Jvm.exec) {own : String} {index : Nat} {y : MethodName} {bytes : ByteArray} {maxL : Nat} {ret : Option FieldType} {hh : List (Nat × Nat × Nat × Nat)}
    (hown : s.vm.findClass own = some m.cls) (hlink : (Cond.methodLink own index y).before args s = true) (hstat : (Cond.static y).before args s = true) (hinit : (Cond.initialized y.cls).before args s = true)
    (hcode : (Cond.codeWith y bytes maxL ret hh).before args s = true) (hy : y.cls ≠ "java/lang/invoke/MethodHandle" ∧ y.cls ≠ "java/lang/invoke/VarHandle")
    {W9 : Nat} {Pre : Pt → Array Value → Prop} {Post : Pt → Array Value → Option Value → Pt → Prop} (hK : Back l R p e below s args y 3 W9 Pre Post)
    {g : JFrame} (hg : g.method = m) (hsize : g.locals.size = c.maxLocals) {argsL rest : List Value} (hlen : ∀ sig, parseMethodDescriptor y.desc = some sig → argsL.length = sig.parameters.length)
    (hstack : g.stack = argsL.reverse ++ rest) (hW : 2 * g.monitorRoom + (rest.map fun v => v.category).sum ≤ W9) (hdg : decode c.code g.pc = .ok (.invokestatic index, 3))
    (hpre : ∀ vm₁, s.WarmedH vm₁ → Pre ⟨T.setVm vm₁, locs, cells, slots⟩ argsL.toArray) :
    ∃ (v : Option Value) (vm₁ : Vm) (B : Pt), s.WarmedH vm₁ ∧ Stand p l e R s m args below meth c B.U B.locs B.cells B.slots ∧ Post ⟨T.setVm vm₁, locs, cells, slots⟩ argsL.toArray v B ∧
      ∀ target, Steps p.tables e below (B.U.setTop { g with pc := g.pc + 3, stack := v.toList ++ rest }) target → Steps p.tables e below (T.setTop g) target := by
  obtain ⟨mk, methM, cM, hnamed, hmethM, -, -, -, -, -, -, hsigM⟩ := Cond.codeWith_spec hcode
  have hstatic : methM.isStatic = true := Cond.static_spec hnamed hmethM hstat
  obtain ⟨kP, hkP, -⟩ := className_of_methodNamed hnamed
  have hinitP : kP.init = .initialized := Cond.initialized_spec (findClass_of_methodNamed hnamed) hkP hinit
  obtain ⟨vm₁, X₁, hstep₁⟩ := X.invokestatic hexec hown hlink hnamed hmethM hstatic hkP hinitP hy (g := g) hg (argsL := argsL) (rest := rest) (hlen _ hsigM) hstack hdg
  obtain ⟨v, B, X', hpost, hsteps⟩ := hK m meth c ⟨T.setVm vm₁, locs, cells, slots⟩ { g with stack := rest } (.invokestatic index) mk argsL.toArray X₁ hg hsize hdg hW (X₁.named hnamed) (hpre vm₁ X₁.warmed)
  exact ⟨v, vm₁, B, X₁.warmed, X', hpost, fun target h => hstep₁ _ fun acts => by rw [doInvoke_state]; exact hsteps.trans h⟩
theorem vx_runSW {y : MethodName} {bytes cc : ByteArray} {maxL nL mc ms n index : Nat} {ret : Option FieldType} {hh : List (Nat × Nat × Nat × Nat)} {ws : List Cond} {rm : Room} {Pc : Array Value → State → Prop} {Qc : Array Value → State → Outcome → State → Prop} {free : Addr → Prop} {Ts : List Cond} {own : String} {As rest : List Value} {g : JFrame}
    (S : CallFix p m c cc nL s args Ts own) (hM : Met l y ws rm Pc Qc mc ms free) (cw : vx_CSW R s args own index y bytes maxL ret hh ws rm mc ms n) (hp : PreS s H Pc As)
    (hg : g.method = m) (hn : As.length = n) (hsize : g.locals.size = nL) (hstack : g.stack = As.reverse ++ rest) (hW : 2 * g.monitorRoom + (rest.map fun v => v.category).sum ≤ 8) (hdg : decode cc g.pc = .ok (.invokestatic index, 3)) (hf : cells + mc ≤ R.cells ∧ slots + ms ≤ R.slots) :
    va_Run p l e R s m args below meth c H locs cells slots mc ms g rest (Qc As.toArray) (free) := by
  obtain ⟨⟨hrc, hrs, hfr, hlo, hws, hcw⟩, hcode, hini, hy, hlen, hl, hstt⟩ := cw
  have hK : Back l R p e below s args y 3 8 (PreOf R mc ms Pc) (PostOf Qc mc ms free) := va_backW (hh := hh) (bytes := bytes) (maxL := maxL) (ret := ret) hM hp.1 hrc hrs hfr hlo hws hcw (fun a' U hW => word_at hW (Or.inl (by first | rfl | simp [Cond.onTables, Cond.keeps, Cond.steady])) hini)
  obtain ⟨hx, hb, hml, ho, -⟩ := S
  intro T hT X
  obtain ⟨v, vm₁, ⟨U', l2, c2, s2⟩, hW₁, X', ⟨g', mk, t, L, e1, e2, hq, h1, hL, h2, h3⟩, st⟩ := vx_callSW X hx (hh := hh) (bytes := bytes) (maxL := maxL) (ret := ret) ho hl hstt hini hcode hy hK hg (hsize.trans hml.symm) (argsL := As) (rest := rest) (fun sig h => hn.trans (hlen sig h)) hstack hW (by rw [hb]; exact hdg)
    (fun vm₁ hW₁ => ⟨hf.1, hf.2, hp.2 (T.setVm vm₁) hT hW₁⟩)
  dsimp only [Pt.U, Pt.locs, Pt.cells, Pt.slots] at X' e1 e2 h1 h2 h3 st
  subst h1; subst h2; subst h3
  exact ⟨v, (T.setVm vm₁).calling g' mk As.toArray, t, U', L, hT, X', hL, e1, e2, hq, st⟩
theorem vx_lt {D : va_G} {cl : List vw_C} {ws : va_W} {H1 : Heap} (h : va_P D cl ws H1) {k : Nat} {q : Nat × va_E} (hk : ws[k]? = some q) : q.1 < H1.size := (h k q hk).lt
end VXS
section VXH
section
variable {l : Launch} {R : Room} {p : Program} {e : Env} {below : List Frame} {s : State} {sargs : Array Value} {y : MethodName} {len W9 : Nat}
theorem vx_backW {ws : List Cond} {rm : Room} {Pc : Array Value → State → Prop} {Qc : Array Value → State → Outcome → State → Prop} {XC : String → State → State → Prop} {mc ms : Nat} {free : Addr → Prop} {bytes : ByteArray} {maxL : Nat} {ret : Option FieldType} {hh : List (Nat × Nat × Nat × Nat)}
    (hM : vx_Met l y ws rm Pc Qc XC mc ms free) (hblind : FrameBlind Pc) (hrc : rm.cells = mc) (hrs : rm.slots = ms)
    (hframes : rm.frames + 1 ≤ R.frames) (hlocals : W9 + (maxL + 11) + rm.locals ≤ R.locals)
    (hws : ∀ w ∈ ws, ∀ a' U, s.WarmedH U.vm → w.before a' U = true) (hcode : Cond.codeWith y bytes maxL ret hh ∈ ws) (hinit : ∀ a' U, s.WarmedH U.vm → (Cond.initialized y.cls).before a' U = true) :
    vx_Back l R p e below s sargs y len W9 (PreOf R mc ms Pc) (PostOf Qc mc ms free) (vx_Post XC mc ms free) := by
  intro m meth c A g ig mk a X hg hsize hdg hW hn hp
  have h1 : (headSpec ws rm).pre.before a A.U = true := atoms_intro fun w hw => hws w hw _ _ X.warmed
  have h2 : (Cond.codeWith y bytes maxL ret hh).before a A.U = true := hws _ hcode _ _ X.warmed
  have h3 : (Cond.initialized y.cls).before a A.U = true := hinit _ _ X.warmed
  have h4 : A.cells + (headSpec ws rm).room.cells ≤ R.cells := by rw [show (headSpec ws rm).room.cells = mc from hrc]; exact hp.1
  have h5 : A.slots + (headSpec ws rm).room.slots ≤ R.slots := by rw [show (headSpec ws rm).room.slots = ms from hrs]; exact hp.2.1
  have hPc : Pc a (A.U.calling g mk a) := hblind _ _ _ _ hp.2.2
  obtain ⟨U, Ls, c0, s0⟩ := A
  dsimp only [Pt.U, Pt.locs, Pt.cells, Pt.slots] at h1 h2 h3 h4 h5 X hn hPc ⊢
  obtain ⟨m9, methY, cY, hn9, hmY, hcY, -, hlY, -⟩ := Cond.codeWith_spec h2
  cases Option.some.inj (hn9.symm.trans hn)
  obtain ⟨kY, hkY, -⟩ := className_of_methodNamed hn
  have hinitY : kY.init = .initialized := Cond.initialized_spec (findClass_of_methodNamed hn) hkY h3
  have h : At U g.method c below := by rw [hg]; exact X.here
  have hlocals9 : W9 + (maxL + 11) + (headSpec ws rm).room.locals ≤ R.locals := hlocals
  have happ : (headSpec ws rm).appliesLoose y e.platform (U.calling g mk a) = true :=
    Spec.appliesLoose_calling (g := g) h hdg hn hkY hinitY
      (X.room_calling (g := g) (R' := (headSpec ws rm).room) hsize hmY hcY hframes (by rw [hlY]; omega) h4 h5) h1
  obtain ⟨mid, hmid⟩ := h.above
  have hfr : (U.setTop g).frames = (.java g :: mid) ++ below := by rw [State.frames_setTop' g h.top, hmid]; rfl
  obtain ⟨o, s₂, hsteps, -, hend, hq⟩ := Steps.callFree hM p X.admits X.cas X.clock (acts := []) hfr happ hPc trivial
  have hq' : vx_Q Qc XC mc ms free a (U.calling g mk a) o s₂ := hq
  rw [State.frames_setTop' g h.top] at hend
  obtain ⟨g₀, hg0⟩ := Option.isSome_iff_exists.mp h.top
  obtain ⟨r, hr⟩ := State.topJava?_eq_some.mp hg0
  have hr' : (({ U with heap := s₂.heap, slotsUsed := s₂.slotsUsed } : State).setVm s₂.vm).frames = .java g₀ :: r := hr
  rcases hq' with ⟨hqc, L, hfe, hL⟩ | ⟨q, rfl, E, ce, L, hx, hce, hcv, hcl, hW₂, hsm, hL⟩
  · obtain ⟨⟨v, rfl⟩, hW₂, e2, q2, q3, q4, q5, q6⟩ := id hfe
    have e3 : s₂ = ({ (U.calling g mk a).setFrames s₂.frames with heap := s₂.heap, slotsUsed := s₂.slotsUsed } : State).setVm s₂.vm := by
      have : s₂ = ({ s₂ with vm := (U.calling g mk a).vm } : State).setVm s₂.vm := rfl
      rw [e2] at this
      exact this
    obtain ⟨c₂, i₂, len₂, hc₂, hd₂, hf₂⟩ := hend
    have hW' : U.WarmedH s₂.vm := hW₂
    have hcc : c₂ = c := by
      have h1 : s₂.code? g.method = U.code? g.method := by
        rw [State.code?_eq, State.code?_eq, hW'.alike.method?]
      exact Option.some.inj (hc₂.symm.trans (h1.trans h.code))
    subst hcc
    have hlen : len₂ = len := by rw [hdg] at hd₂; cases hd₂; rfl
    subst hlen
    have hs₂ : s₂ = (({ U with heap := s₂.heap, slotsUsed := s₂.slotsUsed } : State).setVm s₂.vm).setTop { g with pc := g.pc + len₂, stack := v.toList ++ g.stack } := by
      refine e3.trans ?_
      rw [hf₂, State.calling_eq h.top, State.setFrames_setFrames, State.setTop_of_frames _ hr', hr]
      rfl
    have hsame : U.sameButNew ({ U with heap := s₂.heap, slotsUsed := s₂.slotsUsed } : State) L mc ms := by
      refine ⟨?_, q2, q3, q4, q5, q6⟩
      obtain ⟨t, ht, -⟩ := State.frames_cons hr
      show ({ U with heap := s₂.heap, slotsUsed := s₂.slotsUsed } : State) = { U.setFrames U.frames with heap := s₂.heap, slotsUsed := s₂.slotsUsed }
      rw [State.setFrames_self ht]
    subst hg
    refine Or.inl ⟨v, ⟨(({ U with heap := s₂.heap, slotsUsed := s₂.slotsUsed } : State).setVm s₂.vm), Ls ++ L, c0 + mc, s0 + ms⟩,
      ⟨X.admits, X.cas, X.clock, X.frames, X.room, X.hears, X.method, X.code, (X.here.setHeapUsed s₂.heap s₂.slotsUsed).setVm hW'.alike, X.tail, State.WarmedH.trans X.warmed hW', X.limits, X.bytes, X.same.trans (hsame.setVm s.vm)⟩,
      ⟨g, mk, s₂, L, rfl, rfl, hqc, rfl, hL, rfl, rfl⟩, ?_⟩
    show Steps p.tables e below _ ((({ U with heap := s₂.heap, slotsUsed := s₂.slotsUsed } : State).setVm s₂.vm).setTop { g with pc := g.pc + len₂, stack := v.toList ++ g.stack })
    rw [← hs₂]
    exact hsteps
  · obtain ⟨e2, q2, q3, q4, q5, q6⟩ := id hsm
    have e3 : s₂ = ({ (U.calling g mk a).setFrames s₂.frames with heap := s₂.heap, slotsUsed := s₂.slotsUsed } : State).setVm s₂.vm := by
      have : s₂ = ({ s₂ with vm := (U.calling g mk a).vm } : State).setVm s₂.vm := rfl
      rw [e2] at this
      exact this
    have hf₂ : s₂.frames = .throwing q :: .java g :: U.frames.tail := hend
    have hW' : U.WarmedH s₂.vm := hW₂
    have hs₂ : s₂ = ((({ U with heap := s₂.heap, slotsUsed := s₂.slotsUsed } : State).setVm s₂.vm).setTop g).pushFrame (.throwing q) := by
      refine e3.trans ?_
      rw [hf₂, State.calling_eq h.top, State.setFrames_setFrames, State.pushFrame, State.frames_setTop _ hr', State.setTop_of_frames _ hr', State.setFrames_setFrames, hr]
      rfl
    have hsame : U.sameButNew ({ U with heap := s₂.heap, slotsUsed := s₂.slotsUsed } : State) L mc ms := by
      refine ⟨?_, q2, q3, q4, q5, q6⟩
      obtain ⟨t, ht, -⟩ := State.frames_cons hr
      show ({ U with heap := s₂.heap, slotsUsed := s₂.slotsUsed } : State) = { U.setFrames U.frames with heap := s₂.heap, slotsUsed := s₂.slotsUsed }
      rw [State.setFrames_self ht]
    subst hg
    refine Or.inr ⟨q, ⟨(({ U with heap := s₂.heap, slotsUsed := s₂.slotsUsed } : State).setVm s₂.vm), Ls ++ L, c0 + mc, s0 + ms⟩,
      ⟨X.admits, X.cas, X.clock, X.frames, X.room, X.hears, X.method, X.code, (X.here.setHeapUsed s₂.heap s₂.slotsUsed).setVm hW'.alike, X.tail, State.WarmedH.trans X.warmed hW', X.limits, X.bytes, X.same.trans (hsame.setVm s.vm)⟩,
      ⟨g, mk, s₂, L, E, ce, rfl, rfl, hx, hce, hcv, hcl, rfl, hL, rfl, rfl⟩, ?_⟩
    show Steps p.tables e below _ (((({ U with heap := s₂.heap, slotsUsed := s₂.slotsUsed } : State).setVm s₂.vm).setTop g).pushFrame (.throwing q))
    rw [← hs₂]
    exact hsteps
end
variable {p : Program} {l : Launch} {e : Env} {R : Room} {s : State} {m : MethodId} {args : Array Value} {below : List Frame} {meth : Method} {c : Code} {T : State} {H : Heap} {locs : List Loc} {cells slots : Nat}
theorem vx_callVX (X : Stand p l e R s m args below meth c T locs cells slots) (hexec : p.tables.exec = Jvm.exec) {own C : String} {index : Nat} {y : MethodName} {bytes : ByteArray} {maxL : Nat} {ret : Option FieldType} {hh : List (Nat × Nat × Nat × Nat)}
    (hown : s.vm.findClass own = some m.cls) (hlink : (Cond.methodLink own index y).before args s = true) (hinst : (Cond.instanceMethod y).before args s = true) (hsel : (Cond.selects C y y).before args s = true)
    (hcode : (Cond.codeWith y bytes maxL ret hh).before args s = true) (hy : y.cls ≠ "java/lang/invoke/MethodHandle" ∧ y.cls ≠ "java/lang/invoke/VarHandle")
    {W9 : Nat} {Pre : Pt → Array Value → Prop} {Post : Pt → Array Value → Option Value → Pt → Prop} {PostX : Pt → Array Value → Addr → Pt → Prop} (hK : vx_Back l R p e below s args y 3 W9 Pre Post PostX)
    {b : Addr} {cellB : Cell} (hcell : T.heap[b]? = some cellB) (hobj : cellB.vm.isStatics = false) (hcls : s.vm.findClass C = some cellB.cls)
    {g : JFrame} (hg : g.method = m) (hsize : g.locals.size = c.maxLocals) {argsL rest : List Value} (hlen : ∀ sig, parseMethodDescriptor y.desc = some sig → argsL.length = sig.parameters.length)
    (hstack : g.stack = argsL.reverse ++ .ref b :: rest) (hW : 2 * g.monitorRoom + (rest.map fun v => v.category).sum ≤ W9) (hdg : decode c.code g.pc = .ok (.invokevirtual index, 3))
    (hpre : ∀ vm₁, s.WarmedH vm₁ → Pre ⟨T.setVm vm₁, locs, cells, slots⟩ (Value.ref b :: argsL).toArray) :
    (∃ (v : Option Value) (vm₁ : Vm) (B : Pt), s.WarmedH vm₁ ∧ Stand p l e R s m args below meth c B.U B.locs B.cells B.slots ∧ Post ⟨T.setVm vm₁, locs, cells, slots⟩ (Value.ref b :: argsL).toArray v B ∧
      ∀ target, Steps p.tables e below (B.U.setTop { g with pc := g.pc + 3, stack := v.toList ++ rest }) target → Steps p.tables e below (T.setTop g) target) ∨
    (∃ (q : Addr) (vm₁ : Vm) (B : Pt), s.WarmedH vm₁ ∧ Stand p l e R s m args below meth c B.U B.locs B.cells B.slots ∧ PostX ⟨T.setVm vm₁, locs, cells, slots⟩ (Value.ref b :: argsL).toArray q B ∧
      Steps p.tables e below (T.setTop g) ((B.U.setTop { g with stack := rest }).pushFrame (.throwing q))) := by
  obtain ⟨mk, methM, hnamed, hmethM, hstM, habM⟩ := Cond.instanceMethod_spec hinst
  obtain ⟨m8, methM', cM, hn8, hmethM', -, -, -, -, -, -, hsigM⟩ := Cond.codeWith_spec hcode
  cases Option.some.inj (hn8.symm.trans hnamed)
  cases hmethM.symm.trans hmethM'
  obtain ⟨c2, r2, m2, q1, q2, q3, q4, kP, hkP, hkPi⟩ := Cond.selects_spec hsel
  cases hcls.symm.trans q1
  cases (State.methodFound?_of_named hnamed hy).symm.trans q2
  cases hnamed.symm.trans q3
  have hselP : selectMethod e.platform s.vm cellB.cls mk = .method mk := by rw [Launch.admits_selectMethod X.admits]; exact q4
  obtain ⟨vm₁, X₁, hstep₁⟩ := X.invokevirtual hexec hown hlink hnamed hmethM hstM hkP hkPi hy (a := b) (cell := cellB) hcell
    (fun z h => by rw [h] at hobj; cases hobj) hselP hmethM habM hkP hkPi (g := g) hg (argsL := argsL) (rest := rest) (hlen _ hsigM) hstack hdg
  rcases hK m meth c ⟨T.setVm vm₁, locs, cells, slots⟩ { g with stack := rest } (.invokevirtual index) mk (Value.ref b :: argsL).toArray X₁ hg hsize hdg hW (X₁.named hnamed) (hpre vm₁ X₁.warmed) with ⟨v, B, X', hpost, hsteps⟩ | ⟨q, B, X', hpost, hsteps⟩
  · exact Or.inl ⟨v, vm₁, B, X₁.warmed, X', hpost, fun target h => hstep₁ _ fun acts => by rw [doInvoke_state]; exact hsteps.trans h⟩
  · exact Or.inr ⟨q, vm₁, B, X₁.warmed, X', hpost, hstep₁ _ fun acts => by rw [doInvoke_state]; exact hsteps⟩
theorem vx_callSX (X : Stand p l e R s m args below meth c T locs cells slots) (hexec : p.tables.exec = Jvm.exec) {own : String} {index : Nat} {y : MethodName} {bytes : ByteArray} {maxL : Nat} {ret : Option FieldType} {hh : List (Nat × Nat × Nat × Nat)}
    (hown : s.vm.findClass own = some m.cls) (hlink : (Cond.methodLink own index y).before args s = true) (hstat : (Cond.static y).before args s = true) (hinit : (Cond.initialized y.cls).before args s = true)
    (hcode : (Cond.codeWith y bytes maxL ret hh).before args s = true) (hy : y.cls ≠ "java/lang/invoke/MethodHandle" ∧ y.cls ≠ "java/lang/invoke/VarHandle")
    {W9 : Nat} {Pre : Pt → Array Value → Prop} {Post : Pt → Array Value → Option Value → Pt → Prop} {PostX : Pt → Array Value → Addr → Pt → Prop} (hK : vx_Back l R p e below s args y 3 W9 Pre Post PostX)
    {g : JFrame} (hg : g.method = m) (hsize : g.locals.size = c.maxLocals) {argsL rest : List Value} (hlen : ∀ sig, parseMethodDescriptor y.desc = some sig → argsL.length = sig.parameters.length)
    (hstack : g.stack = argsL.reverse ++ rest) (hW : 2 * g.monitorRoom + (rest.map fun v => v.category).sum ≤ W9) (hdg : decode c.code g.pc = .ok (.invokestatic index, 3))
    (hpre : ∀ vm₁, s.WarmedH vm₁ → Pre ⟨T.setVm vm₁, locs, cells, slots⟩ argsL.toArray) :
    (∃ (v : Option Value) (vm₁ : Vm) (B : Pt), s.WarmedH vm₁ ∧ Stand p l e R s m args below meth c B.U B.locs B.cells B.slots ∧ Post ⟨T.setVm vm₁, locs, cells, slots⟩ argsL.toArray v B ∧
      ∀ target, Steps p.tables e below (B.U.setTop { g with pc := g.pc + 3, stack := v.toList ++ rest }) target → Steps p.tables e below (T.setTop g) target) ∨
    (∃ (q : Addr) (vm₁ : Vm) (B : Pt), s.WarmedH vm₁ ∧ Stand p l e R s m args below meth c B.U B.locs B.cells B.slots ∧ PostX ⟨T.setVm vm₁, locs, cells, slots⟩ argsL.toArray q B ∧
      Steps p.tables e below (T.setTop g) ((B.U.setTop { g with stack := rest }).pushFrame (.throwing q))) := by
  obtain ⟨mk, methM, cM, hnamed, hmethM, -, -, -, -, -, -, hsigM⟩ := Cond.codeWith_spec hcode
  have hstatic : methM.isStatic = true := Cond.static_spec hnamed hmethM hstat
  obtain ⟨kP, hkP, -⟩ := className_of_methodNamed hnamed
  have hinitP : kP.init = .initialized := Cond.initialized_spec (findClass_of_methodNamed hnamed) hkP hinit
  obtain ⟨vm₁, X₁, hstep₁⟩ := X.invokestatic hexec hown hlink hnamed hmethM hstatic hkP hinitP hy (g := g) hg (argsL := argsL) (rest := rest) (hlen _ hsigM) hstack hdg
  rcases hK m meth c ⟨T.setVm vm₁, locs, cells, slots⟩ { g with stack := rest } (.invokestatic index) mk argsL.toArray X₁ hg hsize hdg hW (X₁.named hnamed) (hpre vm₁ X₁.warmed) with ⟨v, B, X', hpost, hsteps⟩ | ⟨q, B, X', hpost, hsteps⟩
  · exact Or.inl ⟨v, vm₁, B, X₁.warmed, X', hpost, fun target h => hstep₁ _ fun acts => by rw [doInvoke_state]; exact hsteps.trans h⟩
  · exact Or.inr ⟨q, vm₁, B, X₁.warmed, X', hpost, hstep₁ _ fun acts => by rw [doInvoke_state]; exact hsteps⟩
theorem vx_callVW (X : Stand p l e R s m args below meth c T locs cells slots) (hexec : p.tables.exec = Jvm.exec) {own C : String} {index : Nat} {y : MethodName} {bytes : ByteArray} {maxL : Nat} {ret : Option FieldType} {hh : List (Nat × Nat × Nat × Nat)}
    (hown : s.vm.findClass own = some m.cls) (hlink : (Cond.methodLink own index y).before args s = true) (hinst : (Cond.instanceMethod y).before args s = true) (hsel : (Cond.selects C y y).before args s = true)
    (hcode : (Cond.codeWith y bytes maxL ret hh).before args s = true) (hy : y.cls ≠ "java/lang/invoke/MethodHandle" ∧ y.cls ≠ "java/lang/invoke/VarHandle")
    {W9 : Nat} {Pre : Pt → Array Value → Prop} {Post : Pt → Array Value → Option Value → Pt → Prop} (hK : Back l R p e below s args y 3 W9 Pre Post)
    {b : Addr} {cellB : Cell} (hcell : T.heap[b]? = some cellB) (hobj : cellB.vm.isStatics = false) (hcls : s.vm.findClass C = some cellB.cls)
    {g : JFrame} (hg : g.method = m) (hsize : g.locals.size = c.maxLocals) {argsL rest : List Value} (hlen : ∀ sig, parseMethodDescriptor y.desc = some sig → argsL.length = sig.parameters.length)
    (hstack : g.stack = argsL.reverse ++ .ref b :: rest) (hW : 2 * g.monitorRoom + (rest.map fun v => v.category).sum ≤ W9) (hdg : decode c.code g.pc = .ok (.invokevirtual index, 3))
    (hpre : ∀ vm₁, s.WarmedH vm₁ → Pre ⟨T.setVm vm₁, locs, cells, slots⟩ (Value.ref b :: argsL).toArray) :
    ∃ (v : Option Value) (vm₁ : Vm) (B : Pt), s.WarmedH vm₁ ∧ Stand p l e R s m args below meth c B.U B.locs B.cells B.slots ∧ Post ⟨T.setVm vm₁, locs, cells, slots⟩ (Value.ref b :: argsL).toArray v B ∧
      ∀ target, Steps p.tables e below (B.U.setTop { g with pc := g.pc + 3, stack := v.toList ++ rest }) target → Steps p.tables e below (T.setTop g) target := by
  obtain ⟨mk, methM, hnamed, hmethM, hstM, habM⟩ := Cond.instanceMethod_spec hinst
  obtain ⟨m8, methM', cM, hn8, hmethM', -, -, -, -, -, -, hsigM⟩ := Cond.codeWith_spec hcode
  cases Option.some.inj (hn8.symm.trans hnamed)
  cases hmethM.symm.trans hmethM'
  obtain ⟨c2, r2, m2, q1, q2, q3, q4, kP, hkP, hkPi⟩ := Cond.selects_spec hsel
  cases hcls.symm.trans q1
  cases (State.methodFound?_of_named hnamed hy).symm.trans q2
  cases hnamed.symm.trans q3
  have hselP : selectMethod e.platform s.vm cellB.cls mk = .method mk := by rw [Launch.admits_selectMethod X.admits]; exact q4
  obtain ⟨vm₁, X₁, hstep₁⟩ := X.invokevirtual hexec hown hlink hnamed hmethM hstM hkP hkPi hy (a := b) (cell := cellB) hcell
    (fun z h => by rw [h] at hobj; cases hobj) hselP hmethM habM hkP hkPi (g := g) hg (argsL := argsL) (rest := rest) (hlen _ hsigM) hstack hdg
  obtain ⟨v, B, X', hpost, hsteps⟩ := hK m meth c ⟨T.setVm vm₁, locs, cells, slots⟩ { g with stack := rest } (.invokevirtual index) mk (Value.ref b :: argsL).toArray X₁ hg hsize hdg hW (X₁.named hnamed) (hpre vm₁ X₁.warmed)
  exact ⟨v, vm₁, B, X₁.warmed, X', hpost, fun target h => hstep₁ _ fun acts => by rw [doInvoke_state]; exact hsteps.trans h⟩
abbrev vx_CVW (R : Room) (s : State) (args : Array Value) (own C : String) (index : Nat) (y : MethodName) (bytes : ByteArray) (maxL : Nat) (ret : Option FieldType) (hh : List (Nat × Nat × Nat × Nat)) (ws : List Cond) (rm : Room) (mc ms n : Nat) : Prop :=
  (rm.cells = mc ∧ rm.slots = ms ∧ rm.frames + 1 ≤ R.frames ∧ 8 + (maxL + 11) + rm.locals ≤ R.locals ∧ (∀ w ∈ ws, ∀ (a' : Array Value) (U : State), s.WarmedH U.vm → w.before a' U = true) ∧ Cond.codeWith y bytes maxL ret hh ∈ ws) ∧
  (Cond.codeWith y bytes maxL ret hh).before args s = true ∧ (Cond.initialized y.cls).before args s = true ∧ (y.cls ≠ "java/lang/invoke/MethodHandle" ∧ y.cls ≠ "java/lang/invoke/VarHandle") ∧
  (∀ sig, parseMethodDescriptor y.desc = some sig → n = sig.parameters.length) ∧ (Cond.methodLink own index y).before args s = true ∧ (Cond.instanceMethod y).before args s = true ∧ (Cond.selects C y y).before args s = true
theorem vx_cwVW {own C : String} {index maxL mc ms : Nat} {y : MethodName} {bytes : ByteArray} {ret : Option FieldType} {hh : List (Nat × Nat × Nat × Nat)} {Ts ws ws' : List Cond} {rm : Room} (n : Nat) (ht : ∀ w ∈ Ts, w.before args s = true) (hT : GoodIn Ts (wsV own index C y ws)) (hw : ws = Cond.codeWith y bytes maxL ret hh :: ws') (hrc : rm.cells = mc) (hrs : rm.slots = ms)
    (hd : y.cls = C ∧ y.cls ≠ "java/lang/invoke/MethodHandle" ∧ y.cls ≠ "java/lang/invoke/VarHandle" ∧ (parseMethodDescriptor y.desc).map (fun d => d.parameters.length) = some n) (hR : rm.frames + 1 ≤ R.frames ∧ 8 + (maxL + 11) + rm.locals ≤ R.locals) :
    vx_CVW R s args own C index y bytes maxL ret hh ws rm mc ms n := by
  obtain ⟨hC, hd⟩ := hd
  subst hC
  have ok : ∀ w ∈ wsV own index y.cls y ws, w.before args s = true := fun w h => ht w (hT w h).1
  have hG : GoodIn Ts ws := fun w h => hT w (by unfold wsV; exact List.mem_append_right _ h)
  have hc : Cond.codeWith y bytes maxL ret hh ∈ ws := by rw [hw]; exact List.mem_cons_self
  refine ⟨⟨hrc, hrs, hR.1, hR.2, pay_in ht hG, hc⟩, ht _ (hG _ hc).1, ok _ (by simp [wsV]), ⟨hd.1, hd.2.1⟩, fun sig h => ?_, ok _ (by simp [wsV]), ok _ (by simp [wsV]), ok _ (by simp [wsV])⟩
  have h2 := hd.2.2
  rw [h] at h2
  exact (Option.some.inj h2).symm
theorem vx_runVW {y : MethodName} {bytes cc : ByteArray} {maxL nL mc ms n index : Nat} {ret : Option FieldType} {hh : List (Nat × Nat × Nat × Nat)} {ws : List Cond} {rm : Room} {Pc : Array Value → State → Prop} {Qc : Array Value → State → Outcome → State → Prop} {free : Addr → Prop} {Ts : List Cond} {own C : String} {b : Addr} {As rest : List Value} {g : JFrame}
    (S : CallFix p m c cc nL s args Ts own) (hM : Met l y ws rm Pc Qc mc ms free) (cw : vx_CVW R s args own C index y bytes maxL ret hh ws rm mc ms n) (hp : PreV s H C b Pc As)
    (hg : g.method = m) (hn : As.length = n) (hsize : g.locals.size = nL) (hstack : g.stack = As.reverse ++ .ref b :: rest) (hW : 2 * g.monitorRoom + (rest.map fun v => v.category).sum ≤ 8) (hdg : decode cc g.pc = .ok (.invokevirtual index, 3)) (hf : cells + mc ≤ R.cells ∧ slots + ms ≤ R.slots) :
    va_Run p l e R s m args below meth c H locs cells slots mc ms g rest (Qc (Value.ref b :: As).toArray) free := by
  obtain ⟨⟨hrc, hrs, hfr, hlo, hws, hcw⟩, hcode, hini, hy, hlen, hl, hin, hse⟩ := cw
  have hK : Back l R p e below s args y 3 8 (PreOf R mc ms Pc) (PostOf Qc mc ms free) := va_backW (hh := hh) (bytes := bytes) (maxL := maxL) (ret := ret) hM hp.1 hrc hrs hfr hlo hws hcw (fun a' U hW => word_at hW (Or.inl (by first | rfl | simp [Cond.onTables, Cond.keeps, Cond.steady])) hini)
  obtain ⟨hx, hb, hml, ho, -⟩ := S
  obtain ⟨-, ⟨cellB, hcB, hoB, hclB⟩, hPc⟩ := hp
  intro T hT X
  obtain ⟨v, vm₁, ⟨U', l2, c2, s2⟩, hW₁, X', ⟨g', mk, t, L, e1, e2, hq, h1, hL, h2, h3⟩, st⟩ := vx_callVW X hx (C := C) (hh := hh) (bytes := bytes) (maxL := maxL) (ret := ret) ho hl hin hse hcode hy hK (by rw [hT]; exact hcB) hoB hclB hg (hsize.trans hml.symm) (argsL := As) (rest := rest) (fun sig h => hn.trans (hlen sig h)) hstack hW (by rw [hb]; exact hdg)
    (fun vm₁ hW₁ => ⟨hf.1, hf.2, hPc (T.setVm vm₁) hT hW₁⟩)
  dsimp only [Pt.U, Pt.locs, Pt.cells, Pt.slots] at X' e1 e2 h1 h2 h3 st
  subst h1; subst h2; subst h3
  exact ⟨v, (T.setVm vm₁).calling g' mk (Value.ref b :: As).toArray, t, U', L, hT, X', hL, e1, e2, hq, st⟩
section
variable {y : MethodName} {bytes cc : ByteArray} {maxL nL mc ms n index : Nat} {ret : Option FieldType} {ws : List Cond} {rm : Room} {Pc : Array Value → State → Prop} {Qc : Array Value → State → Outcome → State → Prop} {XC : String → State → State → Prop} {free : Addr → Prop} {Ts : List Cond} {own C : String} {b : Addr} {As rest : List Value} {g : JFrame}
theorem vx_runVX {hh : List (Nat × Nat × Nat × Nat)} (S : CallFix p m c cc nL s args Ts own) (hM : vx_Met l y ws rm Pc Qc XC mc ms free) (cw : vx_CVW R s args own C index y bytes maxL ret hh ws rm mc ms n) (hp : PreV s H C b Pc As)
    (hg : g.method = m) (hn : As.length = n) (hsize : g.locals.size = nL) (hstack : g.stack = As.reverse ++ .ref b :: rest) (hW : 2 * g.monitorRoom + (rest.map fun v => v.category).sum ≤ 8) (hdg : decode cc g.pc = .ok (.invokevirtual index, 3)) (hf : cells + mc ≤ R.cells ∧ slots + ms ≤ R.slots) :
    vx_Run p l e R s m args below meth c H locs cells slots mc ms g rest (Qc (Value.ref b :: As).toArray) XC free := by
  obtain ⟨⟨hrc, hrs, hfr, hlo, hws, hcw⟩, hcode, hini, hy, hlen, hl, hin, hse⟩ := cw
  have hK : vx_Back l R p e below s args y 3 8 (PreOf R mc ms Pc) (PostOf Qc mc ms free) (vx_Post XC mc ms free) := vx_backW (hh := hh) (bytes := bytes) (maxL := maxL) (ret := ret) hM hp.1 hrc hrs hfr hlo hws hcw (fun a' U hW => word_at hW (Or.inl (by first | rfl | simp [Cond.onTables, Cond.keeps, Cond.steady])) hini)
  obtain ⟨hx, hb, hml, ho, -⟩ := S
  obtain ⟨-, ⟨cellB, hcB, hoB, hclB⟩, hPc⟩ := hp
  intro T hT X
  rcases vx_callVX X hx (C := C) (hh := hh) (bytes := bytes) (maxL := maxL) (ret := ret) ho hl hin hse hcode hy hK (by rw [hT]; exact hcB) hoB hclB hg (hsize.trans hml.symm) (argsL := As) (rest := rest) (fun sig h => hn.trans (hlen sig h)) hstack hW (by rw [hb]; exact hdg)
    (fun vm₁ hW₁ => ⟨hf.1, hf.2, hPc (T.setVm vm₁) hT hW₁⟩) with ⟨v, vm₁, ⟨U', l2, c2, s2⟩, hW₁, X', ⟨g', mk, t, L, e1, e2, hq, h1, hL, h2, h3⟩, st⟩ | ⟨q, vm₁, ⟨U', l2, c2, s2⟩, hW₁, X', ⟨g', mk, t, L, E, ce, e1, e2, hq, hce, hcv, hcl, h1, hL, h2, h3⟩, st⟩
  · dsimp only [Pt.U, Pt.locs, Pt.cells, Pt.slots] at X' e1 e2 h1 h2 h3 st
    subst h1; subst h2; subst h3
    exact Or.inl ⟨v, (T.setVm vm₁).calling g' mk (Value.ref b :: As).toArray, t, U', L, hT, X', hL, e1, e2, hq, st⟩
  · dsimp only [Pt.U, Pt.locs, Pt.cells, Pt.slots] at X' e1 e2 h1 h2 h3 st hcl
    subst h1; subst h2; subst h3
    exact Or.inr ⟨q, (T.setVm vm₁).calling g' mk (Value.ref b :: As).toArray, t, U', L, E, ce, hT, X', hL, e1, e2, hq, hce, hcv, vx_cls hW₁ hcl, st⟩
theorem vx_runSX {hh : List (Nat × Nat × Nat × Nat)} (S : CallFix p m c cc nL s args Ts own) (hM : vx_Met l y ws rm Pc Qc XC mc ms free) (cw : vx_CSW R s args own index y bytes maxL ret hh ws rm mc ms n) (hp : PreS s H Pc As)
    (hg : g.method = m) (hn : As.length = n) (hsize : g.locals.size = nL) (hstack : g.stack = As.reverse ++ rest) (hW : 2 * g.monitorRoom + (rest.map fun v => v.category).sum ≤ 8) (hdg : decode cc g.pc = .ok (.invokestatic index, 3)) (hf : cells + mc ≤ R.cells ∧ slots + ms ≤ R.slots) :
    vx_Run p l e R s m args below meth c H locs cells slots mc ms g rest (Qc As.toArray) XC free := by
  obtain ⟨⟨hrc, hrs, hfr, hlo, hws, hcw⟩, hcode, hini, hy, hlen, hl, hstt⟩ := cw
  have hK : vx_Back l R p e below s args y 3 8 (PreOf R mc ms Pc) (PostOf Qc mc ms free) (vx_Post XC mc ms free) := vx_backW (hh := hh) (bytes := bytes) (maxL := maxL) (ret := ret) hM hp.1 hrc hrs hfr hlo hws hcw (fun a' U hW => word_at hW (Or.inl (by first | rfl | simp [Cond.onTables, Cond.keeps, Cond.steady])) hini)
  obtain ⟨hx, hb, hml, ho, -⟩ := S
  intro T hT X
  rcases vx_callSX X hx (hh := hh) (bytes := bytes) (maxL := maxL) (ret := ret) ho hl hstt hini hcode hy hK hg (hsize.trans hml.symm) (argsL := As) (rest := rest) (fun sig h => hn.trans (hlen sig h)) hstack hW (by rw [hb]; exact hdg)
    (fun vm₁ hW₁ => ⟨hf.1, hf.2, hp.2 (T.setVm vm₁) hT hW₁⟩) with ⟨v, vm₁, ⟨U', l2, c2, s2⟩, hW₁, X', ⟨g', mk, t, L, e1, e2, hq, h1, hL, h2, h3⟩, st⟩ | ⟨q, vm₁, ⟨U', l2, c2, s2⟩, hW₁, X', ⟨g', mk, t, L, E, ce, e1, e2, hq, hce, hcv, hcl, h1, hL, h2, h3⟩, st⟩
  · dsimp only [Pt.U, Pt.locs, Pt.cells, Pt.slots] at X' e1 e2 h1 h2 h3 st
    subst h1; subst h2; subst h3
    exact Or.inl ⟨v, (T.setVm vm₁).calling g' mk As.toArray, t, U', L, hT, X', hL, e1, e2, hq, st⟩
  · dsimp only [Pt.U, Pt.locs, Pt.cells, Pt.slots] at X' e1 e2 h1 h2 h3 st hcl
    subst h1; subst h2; subst h3
    exact Or.inr ⟨q, (T.setVm vm₁).calling g' mk As.toArray, t, U', L, E, ce, hT, X', hL, e1, e2, hq, hce, hcv, vx_cls hW₁ hcl, st⟩
end
end VXH
theorem vx_ofWH {l : Launch} {y : MethodName} {ws ws' : List Cond} {rm : Room} {Pc : Array Value → State → Prop} {Qc : Array Value → State → Outcome → State → Prop} {XC : String → State → State → Prop} {mc ms : Nat} {free : Addr → Prop} {cc : ByteArray} {maxL : Nat} {ret : Option FieldType} {hh : List (Nat × Nat × Nat × Nat)}
    (hy : plainName y.cls = true) (hw : ws = Cond.codeWith y cc maxL ret hh :: ws')
    (body : ∀ p e s m args below meth c s₁, BodyLoose p l y (headSpec ws rm) cc maxL ret e s m args below meth c s₁ → c.maxLocals = maxL → Pc args s →
      W p l e (headSpec ws rm).room s m args below meth c s.heap [] 0 0 (vx_MQ below Qc XC args s mc ms free) (entryFrame m args maxL)) : vx_Met l y ws rm Pc Qc XC mc ms free := by
  refine MetFree.of_bodyS (code := cc) (maxLocals := maxL) (ret := ret) hy ?_ ?_
  · intro args s m h hn
    obtain ⟨m9, meth, c, hn9, h1, h2, h3, h4, -, h5, h6, -⟩ := Cond.codeWith_spec (atoms_spec (ws := ws) h _ (by rw [hw]; exact List.mem_cons_self))
    cases hn.symm.trans hn9
    exact ⟨meth, c, h1, h2, h3, h4, h5, h6⟩
  · intro p e s m args below meth c s₁ B hml hP _
    have hh0 : s₁.heap = s.heap := by rw [B.state]; rfl
    obtain ⟨t, a1, o, b1, b2, b3⟩ := body p e s m args below meth c s₁ B hml hP s₁ hh0 (Stand.of_body B)
    exact ⟨t, o, a1, b1, b2, b3⟩
end
section
abbrev ix_H : Type := Nat → Nat → Int32
abbrev ix_Op : Type := Nat × Nat × Instr × Nat × Nat × Nat × List Nat × Int32
abbrev ix_pc (o : ix_Op) : Nat := o.1
abbrev ix_len (o : ix_Op) : Nat := o.2.1
abbrev ix_ins (o : ix_Op) : Instr := o.2.2.1
abbrev ix_x (o : ix_Op) : Nat := o.2.2.2.1
abbrev ix_y (o : ix_Op) : Nat := o.2.2.2.2.1
abbrev ix_z (o : ix_Op) : Nat := o.2.2.2.2.2.1
abbrev ix_tl (o : ix_Op) : List Nat := o.2.2.2.2.2.2.1
abbrev ix_v (o : ix_Op) : Int32 := o.2.2.2.2.2.2.2
abbrev ix_R : Type := (Option Value ⊕ Nat) × ix_H × Nat
def ix_up (h : ix_H) (a k : Nat) (v : Int32) : ix_H := fun i j => if i = a then (if j = k then v else h i j) else h i j
def ix_row (h : ix_H) (a : Nat) (f : Nat → Int32) : ix_H := fun i => if i = a then f else h i
def ix_bop : Instr → Int32 → Int32 → Option Int32
  | .iadd, x, y => some (x + y)
  | .isub, x, y => some (x - y)
  | .imul, x, y => some (x * y)
  | .iand, x, y => some (x &&& y)
  | .ior, x, y => some (x ||| y)
  | .ixor, x, y => some (x ^^^ y)
  | .ishl, x, y => some (x <<< (y &&& 31))
  | .ishr, x, y => some (x >>> (y &&& 31))
  | .iushr, x, y => some (x.toUInt32 >>> (y.toUInt32 &&& Int32.toUInt32 31)).toInt32
  | .idiv, x, y => if y = 0 then none else some (x / y)
  | .irem, x, y => if y = 0 then none else some (x - x / y * y)
  | _, _, _ => none
def ix_g1 (o : ix_Op) (ls st : List Value) : Option (List Value × List Value) :=
  match ix_ins o with
  | .iconst n => some (ls, .int (Int32.ofInt n) :: st)
  | .bipush n => some (ls, .int (Int8.ofInt n).toInt32 :: st)
  | .sipush n => some (ls, .int (Int16.ofInt n).toInt32 :: st)
  | .ldc _ => if ix_z o = 0 then some (ls, .int (ix_v o) :: st) else if ix_z o = 1 then some (ls, .ref (ix_x o) :: st) else none
  | .ldc_w _ => if ix_z o = 0 then some (ls, .int (ix_v o) :: st) else none
  | .iload_n k => match ls[(k : Nat)]? with
    | some (.int x) => some (ls, .int x :: st)
    | _ => none
  | .iload k => match ls[k]? with
    | some (.int x) => some (ls, .int x :: st)
    | _ => none
  | .aload_n k => match ls[(k : Nat)]? with
    | some (.ref x) => some (ls, .ref x :: st)
    | _ => none
  | .aload k => match ls[k]? with
    | some (.ref x) => some (ls, .ref x :: st)
    | _ => none
  | .iinc k n => match ls[k]? with
    | some (.int x) => some (ls.set k (.int (x + Int32.ofInt n)), st)
    | _ => none
  | _ => none
def ix_g2 (o : ix_Op) (ls st : List Value) : Option (List Value × List Value) :=
  match ix_ins o, st with
  | .istore_n k, .int x :: r => if (k : Nat) < ls.length then some (ls.set k (.int x), r) else none
  | .istore k, .int x :: r => if k < ls.length then some (ls.set k (.int x), r) else none
  | .astore_n k, .ref x :: r => if (k : Nat) < ls.length then some (ls.set k (.ref x), r) else none
  | .astore k, .ref x :: r => if k < ls.length then some (ls.set k (.ref x), r) else none
  | .ineg, .int x :: r => some (ls, .int (-x) :: r)
  | .i2b, .int x :: r => some (ls, .int x.toInt8.toInt32 :: r)
  | .i2c, .int x :: r => some (ls, .int (x.toUInt32 % 65536).toInt32 :: r)
  | .i2l, .int x :: r => some (ls, .long x.toInt64 :: r)
  | .dup, a :: r => if a.category = 1 then some (ls, a :: a :: r) else none
  | .pop, a :: r => if a.category = 1 then some (ls, r) else none
  | .dup2, a :: b :: r => if a.category = 1 ∧ b.category = 1 then some (ls, a :: b :: a :: b :: r) else none
  | .lcmp, .long y :: .long x :: r => some (ls, .int (lg_cmp x y) :: r)
  | _, _ => none
def ix_g3a (o : ix_Op) (ls st : List Value) : Option (List Value × List Value) :=
  match st with
  | .int y :: .int x :: r => (ix_bop (ix_ins o) x y).map (fun v => (ls, .int v :: r))
  | _ => none
def ix_g3b (o : ix_Op) (ls st : List Value) : Option (List Value × List Value) :=
  match ix_ins o with
  | .invokestatic _ => if (st.map fun v => v.category).sum ≤ 10 then (if ix_y o = 4 then (match st with
      | .int y :: .int x :: r => some (ls, .int (if x < y then y else x) :: r)
      | _ => none) else if ix_y o = 5 then (match st with
      | .int y :: .int x :: r => some (ls, .int (if y < x then y else x) :: r)
      | _ => none) else if ix_y o = 6 then (match st with
      | .int x :: r => some (ls, .int (if 0 ≤ x then x else 0 - x) :: r)
      | _ => none) else none) else none
  | _ => none
def ix_g3 (o : ix_Op) (ls st : List Value) : Option (List Value × List Value) := match ix_g3a o ls st with
  | some q => some q
  | none => ix_g3b o ls st
def ix_c1 : ClassFile.Cond → Int32 → Bool
  | .eq, x => decide (x = 0)
  | .ne, x => decide (¬ x = 0)
  | .lt, x => decide (x < 0)
  | .ge, x => decide (0 ≤ x)
  | .gt, x => decide (0 < x)
  | .le, x => decide (x ≤ 0)
def ix_c2 : ClassFile.Cond → Int32 → Int32 → Bool
  | .eq, x, y => decide (x = y)
  | .ne, x, y => decide (¬ x = y)
  | .lt, x, y => decide (x < y)
  | .ge, x, y => decide (y ≤ x)
  | .gt, x, y => decide (y < x)
  | .le, x, y => decide (x ≤ y)
def ix_gb (o : ix_Op) (i : Nat) (st : List Value) : Option (Nat × List Value) :=
  match ix_ins o, st with
  | .goto _, r => some (ix_x o, r)
  | .ifCond c _, .int x :: r => some (bif ix_c1 c x then ix_x o else i + 1, r)
  | .if_icmp c _, .int y :: .int x :: r => some (bif ix_c2 c x y then ix_x o else i + 1, r)
  | .tableswitch _ lo hi _, .int x :: r => if x.toInt < lo ∨ hi < x.toInt then some (ix_x o, r) else ((ix_tl o)[(x.toInt - lo).toNat]?).map (fun t => (t, r))
  | _, _ => none
-- SHAPES
def ix_sh (a : Nat) : Nat × Nat × Nat := if 3001 ≤ a then (0, 0, 0) else (if a < 90 then (if a < 52 then (if a < 25 then (if a < 8 then (if a < 3 then (if a < 1 then (5, 11, 0) else (if a < 2 then (2, 600, 0) else (5, 7, 0))) else (if a < 4 then (5, 4, 0) else (if a < 6 then (1, 6, 0) else (1, 8, 0)))) else (if a < 16 then (if a < 9 then (3, 6, 9) else (if a < 15 then (1, 6, 0) else (3, 6, 16))) else (if a < 22 then (1, 6, 0) else (if a < 23 then (5, 4, 0) else (1, 6, 0))))) else (if a < 42 then (if a < 34 then (if a < 27 then (1, 8, 0) else (if a < 28 then (3, 6, 28) else (1, 6, 0))) else (if a < 35 then (3, 6, 35) else (if a < 41 then (1, 6, 0) else (5, 5, 0)))) else (if a < 47 then (if a < 43 then (1, 8, 0) else (if a < 46 then (1, 150, 0) else (5, 5, 0))) else (if a < 48 then (1, 8, 0) else (if a < 51 then (1, 150, 0) else (5, 2, 0)))))) else (if a < 73 then (if a < 63 then (if a < 57 then (if a < 54 then (1, 6, 0) else (if a < 55 then (5, 2, 0) else (1, 6, 0))) else (if a < 58 then (5, 10, 0) else (if a < 62 then (1, 150, 0) else (5, 8, 0)))) else (if a < 68 then (if a < 64 then (1, 8, 0) else (if a < 65 then (5, 9, 0) else (1, 8, 0))) else (if a < 69 then (5, 9, 0) else (if a < 72 then (1, 8, 0) else (5, 3, 0))))) else (if a < 80 then (if a < 76 then (if a < 74 then (1, 432, 0) else (if a < 75 then (1, 1377, 0) else (1, 3, 0))) else (if a < 77 then (5, 6, 0) else (if a < 78 then (1, 120, 0) else (1, 5, 0)))) else (if a < 85 then (if a < 81 then (1, 6, 0) else (if a < 82 then (5, 1, 0) else (1, 48, 0))) else (if a < 86 then (1, 100, 0) else (if a < 87 then (5, 9, 0) else (1, 8, 0))))))) else (if a < 320 then (if a < 120 then (if a < 103 then (if a < 100 then (if a < 91 then (5, 0, 0) else (if a < 99 then (0, 0, 0) else (4, 1, 0))) else (if a < 101 then (5, 12, 0) else (if a < 102 then (1, 600, 0) else (1, 2, 0)))) else (if a < 112 then (if a < 105 then (1, 4, 0) else (if a < 106 then (3, 6, 106) else (1, 2, 0))) else (if a < 113 then (3, 6, 113) else (if a < 119 then (1, 2, 0) else (3, 8, 120))))) else (if a < 145 then (if a < 137 then (if a < 128 then (1, 2, 0) else (if a < 129 then (3, 8, 129) else (1, 2, 0))) else (if a < 138 then (3, 6, 138) else (if a < 144 then (1, 6, 0) else (3, 6, 145)))) else (if a < 158 then (if a < 151 then (1, 6, 0) else (if a < 152 then (3, 6, 152) else (1, 6, 0))) else (if a < 159 then (3, 160, 159) else (if a < 319 then (1, 2, 0) else (3, 160, 320)))))) else (if a < 581 then (if a < 495 then (if a < 487 then (if a < 480 then (1, 2, 0) else (if a < 481 then (3, 6, 481) else (1, 2, 0))) else (if a < 488 then (3, 6, 488) else (if a < 494 then (1, 2, 0) else (1, 160, 0)))) else (if a < 577 then (if a < 496 then (1, 8, 0) else (if a < 497 then (3, 80, 497) else (1, 4, 0))) else (if a < 579 then (1, 32, 0) else (if a < 580 then (1, 8, 0) else (3, 16, 581))))) else (if a < 604 then (if a < 601 then (if a < 597 then (1, 32, 0) else (if a < 598 then (3, 3, 598) else (1, 545, 0))) else (if a < 602 then (1, 8, 0) else (if a < 603 then (1, 100, 0) else (3, 48, 604)))) else (if a < 717 then (if a < 652 then (1, 41, 0) else (if a < 653 then (3, 64, 653) else (1, 6, 0))) else (if a < 2021 then (if a < 2000 then (0, 0, 0) else (6, 0, 0)) else (if a < 3000 then (0, 0, 0) else (7, 0, 0))))))))
abbrev ix_k (a : Nat) : Nat := (ix_sh a).1
abbrev ix_n (a : Nat) : Nat := (ix_sh a).2.1
abbrev ix_b (a : Nat) : Nat := (ix_sh a).2.2
def ix_rf (a : Nat) : List (Option Nat) := if ix_k a = 5 then (if a < 62 then (if a < 41 then (if a < 3 then (if a < 2 then [some 1, some 2, some 3, some 22, some 41, some 46, some 51, some 54, some 57, some 62, some 64, some 68, some 72, some 76, some 81, some 90, none, none, none, none] else [some 1, none, none, none, none, none, none]) else (if a < 22 then [some 4, some 5, some 6, some 7, some 8, some 15, none, none, none, none] else [some 23, some 24, some 25, some 26, some 27, some 34, none, none, none, none])) else (if a < 51 then (if a < 46 then [some 42, some 43, some 44, some 45, none] else [some 47, some 48, some 49, some 50, none]) else (if a < 54 then [some 52, some 53, none] else (if a < 57 then [some 55, some 56, none] else [some 58, some 59, some 60, some 61, none, none, none])))) else (if a < 76 then (if a < 68 then (if a < 64 then [some 3, some 41, some 63] else [some 3, some 65, some 66, some 67, none, none, none]) else (if a < 72 then [some 3, some 69, some 70, some 71, none, none, none] else [some 73, some 74, some 75, none, none, none])) else (if a < 86 then (if a < 81 then [some 3, some 62, some 77, some 78, some 79, some 80, none, none] else [some 3, some 62, some 86, some 82, some 83, some 84, some 85, none, none, none]) else (if a < 90 then [some 3, some 87, some 88, some 89, none, none, none] else (if a < 100 then [some 3, some 62, none, none, none] else [none, none, none, none, none, none, none, none, none, some 101, some 102, some 103, some 104, some 105, some 112, some 119, some 128, some 137, some 144, some 151, none, none, some 158, some 319, some 480, some 487, some 494, some 495, some 496, none, some 577, some 578, some 579, some 580, some 597, none, none, none, none, none, none, none, some 601, none, some 602, some 603, some 652, none, none, none]))))) else []
def ix_ids : List Nat := List.range 91 ++ (99 :: (List.range 617).map (fun i => i + 100))
def ix_cpy (h : ix_H) (b sp a dp n : Nat) : ix_H := ix_row h a (va_cpy (h b) (h a) sp dp n)
def ix_gh (dm : Nat → Bool) (o : ix_Op) (st : List Value) (h : ix_H) : Option (List Value × ix_H) :=
  match ix_ins o, st with
  | .getfield _, .ref a :: r => if dm a = true ∧ ix_k a = 5 ∧ ix_n a = ix_x o then (match (ix_rf a)[ix_y o]? with
      | some (some t) => some (.ref t :: r, h)
      | some none => some (.int (h a (ix_y o)) :: r, h)
      | none => none) else none
  | .putfield _, .int v :: .ref a :: r => if dm a = true ∧ ix_k a = 5 ∧ ix_n a = ix_x o ∧ (ix_rf a)[ix_y o]? = some none then some (r, ix_up h a (ix_y o) v) else none
  | .iaload, .int j :: .ref a :: r => if dm a = true ∧ ix_k a = 1 ∧ ¬ (j < 0 ∨ ix_n a ≤ j.toNatClampNeg) then some (.int (h a j.toNatClampNeg) :: r, h)
      else if ix_k a = 7 ∧ ¬ (j < 0 ∨ (h 3001 0).toNatClampNeg ≤ j.toNatClampNeg) then some (.int (h a j.toNatClampNeg) :: r, h) else none
  | .iastore, .int v :: .int j :: .ref a :: r => if dm a = true ∧ ix_k a = 1 ∧ ¬ (j < 0 ∨ ix_n a ≤ j.toNatClampNeg) then some (r, ix_up h a j.toNatClampNeg v) else none
  | .baload, .int j :: .ref a :: r => if dm a = true ∧ ix_k a = 2 ∧ ¬ (j < 0 ∨ ix_n a ≤ j.toNatClampNeg) then some (.int (h a j.toNatClampNeg) :: r, h) else none
  | .bastore, .int v :: .int j :: .ref a :: r => if dm a = true ∧ ix_k a = 2 ∧ ¬ (j < 0 ∨ ix_n a ≤ j.toNatClampNeg) then some (r, ix_up h a j.toNatClampNeg (vp_nar .byte v)) else none
  | .aaload, .int j :: .ref a :: r => if dm a = true ∧ ix_k a = 3 ∧ ¬ (j < 0 ∨ ix_n a ≤ j.toNatClampNeg) then some (.ref (ix_b a + j.toNatClampNeg) :: r, h) else none
  | .laload, .int j :: .ref a :: r => if dm a = true ∧ ix_k a = 4 ∧ ¬ (j < 0 ∨ ix_n a ≤ j.toNatClampNeg) then some (.long (h a j.toNatClampNeg).toInt64 :: r, h) else none
  | .lastore, .long v :: .int j :: .ref a :: r => if dm a = true ∧ ix_k a = 4 ∧ ¬ (j < 0 ∨ ix_n a ≤ j.toNatClampNeg) ∧ v.toInt32.toInt64 = v then some (r, ix_up h a j.toNatClampNeg v.toInt32) else none
  | .arraylength, .ref a :: r => if dm a = true ∧ (ix_k a = 1 ∨ ix_k a = 2 ∨ ix_k a = 3) then some (.int (Int32.ofNat (ix_n a)) :: r, h)
      else if ix_k a = 7 then some (.int (h 3001 0) :: r, h) else none
  | .invokestatic _, .int n :: .int dp :: .ref a :: .int sp :: .ref b :: r => if ix_y o = 7 ∧ dm a = true ∧ dm b = true ∧ ix_k a = 1 ∧ ix_k b = 1 ∧ ¬ sp < 0 ∧ ¬ dp < 0 ∧ ¬ n < 0 ∧ sp.toNatClampNeg + n.toNatClampNeg ≤ ix_n b ∧ dp.toNatClampNeg + n.toNatClampNeg ≤ ix_n a ∧ (r.map fun v => v.category).sum ≤ 8 then some (r, ix_cpy h b sp.toNatClampNeg a dp.toNatClampNeg n.toNatClampNeg) else none
  | _, _ => none
abbrev ix_Hd : Type := Nat × Nat × Nat × Nat × Nat
def ix_find (hs : List ix_Hd) (pc x : Nat) : Option ix_Hd := hs.find? (fun e => decide (e.1 ≤ pc) && decide (pc < e.2.1) && decide (e.2.2.1 = x))
def ix_iscall : Instr → Bool
  | .invokevirtual _ => true
  | .invokestatic _ => true
  | _ => false
def ix_iscv : Instr → Bool
  | .invokevirtual _ => true
  | _ => false
def ix_rcv (dm : Nat → Bool) (o : ix_Op) : List Value → Bool
  | .ref a :: _ => !(ix_iscv (ix_ins o)) || (dm a && decide (ix_k a = 5) && decide (ix_tl o = [ix_n a])) || (decide (ix_k a = 6) && decide (ix_tl o = [99]))
  | _ => !(ix_iscv (ix_ins o))
def ix_run (dm : Nat → Bool) (call : Nat → List Value → ix_H → Option ix_R) (ops : List ix_Op) (hs : List ix_Hd) : Nat → Nat → List Value → List Value → ix_H → Nat → Option ix_R
  | 0, _, _, _, _, _ => none
  | g + 1, i, ls, st, h, k => match ops[i]? with
    | none => none
    | some o => match ix_g1 o ls st with
      | some q => ix_run dm call ops hs g (i + 1) q.1 q.2 h k
      | none => match ix_g2 o ls st with
        | some q => ix_run dm call ops hs g (i + 1) q.1 q.2 h k
        | none => match ix_g3 o ls st with
          | some q => ix_run dm call ops hs g (i + 1) q.1 q.2 h k
          | none => match ix_gb o i st with
            | some q => ix_run dm call ops hs g q.1 ls q.2 h k
            | none => match ix_gh dm o st h with
              | some q => ix_run dm call ops hs g (i + 1) ls q.1 q.2 k
              | none => if ix_iscall (ix_ins o) = true then
                  (if ix_y o < 4 ∧ ix_z o ≤ st.length ∧ ((st.drop (ix_z o)).map fun v => v.category).sum ≤ 8 ∧ ix_rcv dm o (st.take (ix_z o)).reverse = true then
                    (match call (ix_x o) (st.take (ix_z o)).reverse h with
                    | none => none
                    | some (.inl v, h', k') => ix_run dm call ops hs g (i + 1) ls (v.toList ++ st.drop (ix_z o)) h' (k + k')
                    | some (.inr x, h', k') => if ix_y o ≠ 0 then none else match ix_find hs (ix_pc o) x with
                      | none => if hs.isEmpty = true then some (.inr x, h', k + k') else none
                      | some e => if e.2.2.2.2 < ls.length then ix_run dm call ops hs g e.2.2.2.1 (ls.set e.2.2.2.2 .null) [] h' (k + k') else none)
                  else none)
                else match ix_ins o, st with
                  | .ireturn, [.int v] => if ix_x o = 0 ∨ v = 0 ∨ v = 1 then some (.inl (some (.int v)), h, k) else none
                  | .return_, [] => some (.inl none, h, k)
                  | .new _, [] => if ix_y o = 1 then some (.inr (ix_x o), h, k + 1) else none
                  | _, _ => none
abbrev ix_M : Type := MethodName × ByteArray × Nat × Option FieldType × Nat × Nat × List ix_Op × List ix_Hd
abbrev ix_my (M : ix_M) : MethodName := M.1
abbrev ix_mb (M : ix_M) : ByteArray := M.2.1
abbrev ix_ml (M : ix_M) : Nat := M.2.2.1
abbrev ix_mr (M : ix_M) : Option FieldType := M.2.2.2.1
abbrev ix_ma (M : ix_M) : Nat := M.2.2.2.2.1
abbrev ix_mc (M : ix_M) : Nat := M.2.2.2.2.2.1
abbrev ix_mo (M : ix_M) : List ix_Op := M.2.2.2.2.2.2.1
abbrev ix_mh (M : ix_M) : List ix_Hd := M.2.2.2.2.2.2.2
def ix_exec (tab : List ix_M) (pr : Nat → List Value → ix_H → Option ix_R) (dm : Nat → Bool) : Nat → Nat → Nat → List Value → ix_H → Option ix_R
  | 0, _, _, _, _ => none
  | d + 1, f, mi, args, h => match tab[mi]? with
    | none => pr mi args h
    | some M => if args.length = ix_ma M ∧ args.all (fun v => v.category == 1) = true then ix_run dm (ix_exec tab pr dm d f) (ix_mo M) (ix_mh M) f 0 (args ++ List.replicate (ix_ml M - ix_ma M) .null) [] h 0 else none
end
section
def RX0 : String := "CryGorge$Century"
def TX0 : u_T := fun k => match k with
  | 0 => ("CryGorge$Century", "land", "LCryGorge$Land;", true)
  | 1 => ("CryGorge$Century", "seasons", "LCryGorge$Seasons;", true)
  | 2 => ("CryGorge$Century", "seed", "I", false)
  | 3 => ("CryGorge$Century", "loosed", "I", false)
  | _ => ("CryGorge$Century", "bared", "I", false)
def tyX0 : Nat → FieldType := fun k => match k with
  | 0 => .object "CryGorge$Land"
  | 1 => .object "CryGorge$Seasons"
  | 2 => .int
  | 3 => .int
  | _ => .int
theorem nmX0 : ∀ a, a < 5 → ∀ b, b < 5 → a ≠ b → (TX0 a).2.1 ≠ (TX0 b).2.1 := by decide +kernel
theorem tyX0_ok : ∀ k, k < 5 → parseFieldDescriptor (TX0 k).2.2.1 = some (tyX0 k) := by decide +kernel
def RX1 : String := "CryGorge$Guesses"
def TX1 : u_T := fun k => match k with
  | 0 => ("CryGorge$Guesses", "land", "LCryGorge$Land;", true)
  | 1 => ("CryGorge$Guesses", "seasons", "LCryGorge$Seasons;", true)
  | 2 => ("CryGorge$Guesses", "alone", "LCryGorge$State;", true)
  | 3 => ("CryGorge$Guesses", "cryOf", "[I", true)
  | 4 => ("CryGorge$Guesses", "bayOf", "[I", true)
  | 5 => ("CryGorge$Guesses", "strengthOf", "[I", true)
  | 6 => ("CryGorge$Guesses", "heardAlike", "[I", true)
  | 7 => ("CryGorge$Guesses", "many", "I", false)
  | 8 => ("CryGorge$Guesses", "bestAge", "I", false)
  | _ => ("CryGorge$Guesses", "fewestLeft", "I", false)
def tyX1 : Nat → FieldType := fun k => match k with
  | 0 => .object "CryGorge$Land"
  | 1 => .object "CryGorge$Seasons"
  | 2 => .object "CryGorge$State"
  | 3 => .array .int
  | 4 => .array .int
  | 5 => .array .int
  | 6 => .array .int
  | 7 => .int
  | 8 => .int
  | _ => .int
theorem nmX1 : ∀ a, a < 10 → ∀ b, b < 10 → a ≠ b → (TX1 a).2.1 ≠ (TX1 b).2.1 := by decide +kernel
theorem tyX1_ok : ∀ k, k < 10 → parseFieldDescriptor (TX1 k).2.2.1 = some (tyX1 k) := by decide +kernel
def RX2 : String := "CryGorge$Heard"
def TX2 : u_T := fun k => match k with
  | 0 => ("CryGorge$Heard", "ages", "[I", true)
  | 1 => ("CryGorge$Heard", "strengths", "[I", true)
  | _ => ("CryGorge$Heard", "size", "I", false)
def tyX2 : Nat → FieldType := fun k => match k with
  | 0 => .array .int
  | 1 => .array .int
  | _ => .int
theorem nmX2 : ∀ a, a < 3 → ∀ b, b < 3 → a ≠ b → (TX2 a).2.1 ≠ (TX2 b).2.1 := by decide +kernel
theorem tyX2_ok : ∀ k, k < 3 → parseFieldDescriptor (TX2 k).2.2.1 = some (tyX2 k) := by decide +kernel
def RX3 : String := "CryGorge$History"
def TX3 : u_T := fun k => match k with
  | 0 => ("CryGorge$History", "before", "[I", true)
  | 1 => ("CryGorge$History", "saved", "[I", true)
  | 2 => ("CryGorge$History", "savedWorks", "[I", true)
  | 3 => ("CryGorge$History", "works", "I", false)
  | 4 => ("CryGorge$History", "images", "I", false)
  | _ => ("CryGorge$History", "refused", "I", false)
def tyX3 : Nat → FieldType := fun k => match k with
  | 0 => .array .int
  | 1 => .array .int
  | 2 => .array .int
  | 3 => .int
  | 4 => .int
  | _ => .int
theorem nmX3 : ∀ a, a < 6 → ∀ b, b < 6 → a ≠ b → (TX3 a).2.1 ≠ (TX3 b).2.1 := by decide +kernel
theorem tyX3_ok : ∀ k, k < 6 → parseFieldDescriptor (TX3 k).2.2.1 = some (tyX3 k) := by decide +kernel
def RX4 : String := "CryGorge$Land"
def TX4 : u_T := fun k => match k with
  | 0 => ("CryGorge$Land", "fade", "[I", true)
  | 1 => ("CryGorge$Land", "holds", "[I", true)
  | 2 => ("CryGorge$Land", "pitch", "[I", true)
  | 3 => ("CryGorge$Land", "strength", "[I", true)
  | 4 => ("CryGorge$Land", "path", "[[I", true)
  | 5 => ("CryGorge$Land", "distance", "[[I", true)
  | 6 => ("CryGorge$Land", "bays", "I", false)
  | 7 => ("CryGorge$Land", "cries", "I", false)
  | 8 => ("CryGorge$Land", "term", "I", false)
  | _ => ("CryGorge$Land", "felt", "I", false)
def tyX4 : Nat → FieldType := fun k => match k with
  | 0 => .array .int
  | 1 => .array .int
  | 2 => .array .int
  | 3 => .array .int
  | 4 => .array (.array .int)
  | 5 => .array (.array .int)
  | 6 => .int
  | 7 => .int
  | 8 => .int
  | _ => .int
theorem nmX4 : ∀ a, a < 10 → ∀ b, b < 10 → a ≠ b → (TX4 a).2.1 ≠ (TX4 b).2.1 := by decide +kernel
theorem tyX4_ok : ∀ k, k < 10 → parseFieldDescriptor (TX4 k).2.2.1 = some (tyX4 k) := by decide +kernel
def RX5 : String := "CryGorge$Law"
def TX5 : u_T := fun k => match k with
  | 0 => ("CryGorge$Law", "given", "[I", true)
  | 1 => ("CryGorge$Law", "kinds", "[I", true)
  | 2 => ("CryGorge$Law", "values", "[I", true)
  | 3 => ("CryGorge$Law", "pile", "[I", true)
  | _ => ("CryGorge$Law", "size", "I", false)
def tyX5 : Nat → FieldType := fun k => match k with
  | 0 => .array .int
  | 1 => .array .int
  | 2 => .array .int
  | 3 => .array .int
  | _ => .int
theorem nmX5 : ∀ a, a < 5 → ∀ b, b < 5 → a ≠ b → (TX5 a).2.1 ≠ (TX5 b).2.1 := by decide +kernel
theorem tyX5_ok : ∀ k, k < 5 → parseFieldDescriptor (TX5 k).2.2.1 = some (tyX5 k) := by decide +kernel
def RX6 : String := "CryGorge$Planner"
def TX6 : u_T := fun k => match k with
  | 0 => ("CryGorge$Planner", "land", "LCryGorge$Land;", true)
  | 1 => ("CryGorge$Planner", "seasons", "LCryGorge$Seasons;", true)
  | 2 => ("CryGorge$Planner", "loss", "[I", true)
  | 3 => ("CryGorge$Planner", "tried", "[I", true)
  | 4 => ("CryGorge$Planner", "best", "[I", true)
  | 5 => ("CryGorge$Planner", "kept", "[I", true)
  | 6 => ("CryGorge$Planner", "many", "I", false)
  | _ => ("CryGorge$Planner", "least", "I", false)
def tyX6 : Nat → FieldType := fun k => match k with
  | 0 => .object "CryGorge$Land"
  | 1 => .object "CryGorge$Seasons"
  | 2 => .array .int
  | 3 => .array .int
  | 4 => .array .int
  | 5 => .array .int
  | 6 => .int
  | _ => .int
theorem nmX6 : ∀ a, a < 8 → ∀ b, b < 8 → a ≠ b → (TX6 a).2.1 ≠ (TX6 b).2.1 := by decide +kernel
theorem tyX6_ok : ∀ k, k < 8 → parseFieldDescriptor (TX6 k).2.2.1 = some (tyX6 k) := by decide +kernel
def RX7 : String := "CryGorge$Reader"
def TX7 : u_T := fun k => match k with
  | 0 => ("CryGorge$Reader", "text", "[B", true)
  | 1 => ("CryGorge$Reader", "length", "I", false)
  | 2 => ("CryGorge$Reader", "at", "I", false)
  | 3 => ("CryGorge$Reader", "piece", "I", false)
  | 4 => ("CryGorge$Reader", "open", "I", false)
  | 5 => ("CryGorge$Reader", "kind", "I", false)
  | _ => ("CryGorge$Reader", "place", "I", false)
def tyX7 : Nat → FieldType := fun k => match k with
  | 0 => .array .byte
  | 1 => .int
  | 2 => .int
  | 3 => .int
  | 4 => .int
  | 5 => .int
  | _ => .int
theorem nmX7 : ∀ a, a < 7 → ∀ b, b < 7 → a ≠ b → (TX7 a).2.1 ≠ (TX7 b).2.1 := by decide +kernel
theorem tyX7_ok : ∀ k, k < 7 → parseFieldDescriptor (TX7 k).2.2.1 = some (tyX7 k) := by decide +kernel
def RX8 : String := "CryGorge$Seasons"
def TX8 : u_T := fun k => match k with
  | 0 => ("CryGorge$Seasons", "land", "LCryGorge$Land;", true)
  | 1 => ("CryGorge$Seasons", "rule", "LCryGorge$Law;", true)
  | _ => ("CryGorge$Seasons", "losses", "[I", true)
def tyX8 : Nat → FieldType := fun k => match k with
  | 0 => .object "CryGorge$Land"
  | 1 => .object "CryGorge$Law"
  | _ => .array .int
theorem nmX8 : ∀ a, a < 3 → ∀ b, b < 3 → a ≠ b → (TX8 a).2.1 ≠ (TX8 b).2.1 := by decide +kernel
theorem tyX8_ok : ∀ k, k < 3 → parseFieldDescriptor (TX8 k).2.2.1 = some (tyX8 k) := by decide +kernel
def RX9 : String := "CryGorge$State"
def TX9 : u_T := fun k => match k with
  | 0 => ("CryGorge$State", "land", "LCryGorge$Land;", true)
  | 1 => ("CryGorge$State", "strength", "[I", true)
  | 2 => ("CryGorge$State", "age", "[I", true)
  | 3 => ("CryGorge$State", "place", "[I", true)
  | 4 => ("CryGorge$State", "felted", "I", false)
  | 5 => ("CryGorge$State", "feltLeft", "I", false)
  | _ => ("CryGorge$State", "year", "I", false)
def tyX9 : Nat → FieldType := fun k => match k with
  | 0 => .object "CryGorge$Land"
  | 1 => .array .int
  | 2 => .array .int
  | 3 => .array .int
  | 4 => .int
  | 5 => .int
  | _ => .int
theorem nmX9 : ∀ a, a < 7 → ∀ b, b < 7 → a ≠ b → (TX9 a).2.1 ≠ (TX9 b).2.1 := by decide +kernel
theorem tyX9_ok : ∀ k, k < 7 → parseFieldDescriptor (TX9 k).2.2.1 = some (tyX9 k) := by decide +kernel
def RX10 : String := "CryGorge$Work"
def TX10 : u_T := fun k => match k with
  | 0 => ("CryGorge$Work", "kinds", "[I", true)
  | 1 => ("CryGorge$Work", "firsts", "[I", true)
  | 2 => ("CryGorge$Work", "seconds", "[I", true)
  | 3 => ("CryGorge$Work", "left", "[I", true)
  | 4 => ("CryGorge$Work", "size", "I", false)
  | 5 => ("CryGorge$Work", "done", "I", false)
  | _ => ("CryGorge$Work", "refused", "I", false)
def tyX10 : Nat → FieldType := fun k => match k with
  | 0 => .array .int
  | 1 => .array .int
  | 2 => .array .int
  | 3 => .array .int
  | 4 => .int
  | 5 => .int
  | _ => .int
theorem nmX10 : ∀ a, a < 7 → ∀ b, b < 7 → a ≠ b → (TX10 a).2.1 ≠ (TX10 b).2.1 := by decide +kernel
theorem tyX10_ok : ∀ k, k < 7 → parseFieldDescriptor (TX10 k).2.2.1 = some (tyX10 k) := by decide +kernel
def RX11 : String := "CryGorge"
def TX11 : u_T := fun k => match k with
  | 0 => ("CryGorge", "tape", "[B", true)
  | 1 => ("CryGorge", "reader", "LCryGorge$Reader;", true)
  | 2 => ("CryGorge", "land", "LCryGorge$Land;", true)
  | 3 => ("CryGorge", "readLand", "LCryGorge$Land;", true)
  | 4 => ("CryGorge", "rule", "LCryGorge$Law;", true)
  | 5 => ("CryGorge", "readRule", "LCryGorge$Law;", true)
  | 6 => ("CryGorge", "lines", "LCryGorge$Heard;", true)
  | 7 => ("CryGorge", "readLines", "LCryGorge$Heard;", true)
  | 8 => ("CryGorge", "keeping", "LCryGorge$Work;", true)
  | 9 => ("CryGorge", "seasons", "LCryGorge$Seasons;", true)
  | 10 => ("CryGorge", "now", "LCryGorge$State;", true)
  | 11 => ("CryGorge", "trial", "LCryGorge$State;", true)
  | 12 => ("CryGorge", "history", "LCryGorge$History;", true)
  | 13 => ("CryGorge", "planner", "LCryGorge$Planner;", true)
  | 14 => ("CryGorge", "guesses", "LCryGorge$Guesses;", true)
  | 15 => ("CryGorge", "fate", "LCryGorge$Century;", true)
  | 16 => ("CryGorge", "tapeSize", "I", false)
  | 17 => ("CryGorge", "faultPlace", "I", false)
  | 18 => ("CryGorge", "noSuchCalls", "I", false)
  | _ => ("CryGorge", "illegalCalls", "I", false)
def tyX11 : Nat → FieldType := fun k => match k with
  | 0 => .array .byte
  | 1 => .object "CryGorge$Reader"
  | 2 => .object "CryGorge$Land"
  | 3 => .object "CryGorge$Land"
  | 4 => .object "CryGorge$Law"
  | 5 => .object "CryGorge$Law"
  | 6 => .object "CryGorge$Heard"
  | 7 => .object "CryGorge$Heard"
  | 8 => .object "CryGorge$Work"
  | 9 => .object "CryGorge$Seasons"
  | 10 => .object "CryGorge$State"
  | 11 => .object "CryGorge$State"
  | 12 => .object "CryGorge$History"
  | 13 => .object "CryGorge$Planner"
  | 14 => .object "CryGorge$Guesses"
  | 15 => .object "CryGorge$Century"
  | 16 => .int
  | 17 => .int
  | 18 => .int
  | _ => .int
theorem nmX11 : ∀ a, a < 20 → ∀ b, b < 20 → a ≠ b → (TX11 a).2.1 ≠ (TX11 b).2.1 := by decide +kernel
theorem tyX11_ok : ∀ k, k < 20 → parseFieldDescriptor (TX11 k).2.2.1 = some (tyX11 k) := by decide +kernel
def RX12 : String := "CryGorgeModel"
def TX12 : u_T := fun k => match k with
  | 0 => ("CryGorgeModel", "thrown", "I", false)
  | 1 => ("CryGorgeModel", "tape", "I", false)
  | 2 => ("CryGorgeModel", "size", "I", false)
  | 3 => ("CryGorgeModel", "place", "I", false)
  | 4 => ("CryGorgeModel", "at", "I", false)
  | 5 => ("CryGorgeModel", "fault", "I", false)
  | 6 => ("CryGorgeModel", "faultAt", "I", false)
  | 7 => ("CryGorgeModel", "clauses", "I", false)
  | 8 => ("CryGorgeModel", "open", "I", false)
  | 9 => ("CryGorgeModel", "fed", "[I", true)
  | 10 => ("CryGorgeModel", "refused", "[I", true)
  | 11 => ("CryGorgeModel", "readTold", "[I", true)
  | 12 => ("CryGorgeModel", "told", "[I", true)
  | 13 => ("CryGorgeModel", "readBay", "[[I", true)
  | 14 => ("CryGorgeModel", "bay", "[[I", true)
  | 15 => ("CryGorgeModel", "readCry", "[[I", true)
  | 16 => ("CryGorgeModel", "cry", "[[I", true)
  | 17 => ("CryGorgeModel", "readPath", "[[I", true)
  | 18 => ("CryGorgeModel", "path", "[[I", true)
  | 19 => ("CryGorgeModel", "far", "[[I", true)
  | 20 => ("CryGorgeModel", "lawMany", "I", false)
  | 21 => ("CryGorgeModel", "readLawMany", "I", false)
  | 22 => ("CryGorgeModel", "law", "[[I", true)
  | 23 => ("CryGorgeModel", "readLaw", "[[I", true)
  | 24 => ("CryGorgeModel", "line", "[[I", true)
  | 25 => ("CryGorgeModel", "readLine", "[[I", true)
  | 26 => ("CryGorgeModel", "stack", "[I", true)
  | 27 => ("CryGorgeModel", "known", "[I", true)
  | 28 => ("CryGorgeModel", "step", "[[I", true)
  | 29 => ("CryGorgeModel", "steps", "I", false)
  | 30 => ("CryGorgeModel", "now", "[I", true)
  | 31 => ("CryGorgeModel", "trial", "[I", true)
  | 32 => ("CryGorgeModel", "lost", "[I", true)
  | 33 => ("CryGorgeModel", "before", "[[I", true)
  | 34 => ("CryGorgeModel", "kept", "[[I", true)
  | 35 => ("CryGorgeModel", "lines", "I", false)
  | 36 => ("CryGorgeModel", "works", "I", false)
  | 37 => ("CryGorgeModel", "refusedSteps", "I", false)
  | 38 => ("CryGorgeModel", "images", "I", false)
  | 39 => ("CryGorgeModel", "spot", "I", false)
  | 40 => ("CryGorgeModel", "begun", "I", false)
  | 41 => ("CryGorgeModel", "doneSteps", "I", false)
  | 42 => ("CryGorgeModel", "bestAt", "[I", true)
  | 43 => ("CryGorgeModel", "leastLost", "I", false)
  | 44 => ("CryGorgeModel", "times", "[I", true)
  | 45 => ("CryGorgeModel", "heardAt", "[[I", true)
  | 46 => ("CryGorgeModel", "walked", "[[I", true)
  | 47 => ("CryGorgeModel", "lots", "I", false)
  | 48 => ("CryGorgeModel", "loosed", "I", false)
  | _ => ("CryGorgeModel", "bared", "I", false)
def tyX12 : Nat → FieldType := fun k => match k with
  | 0 => .int
  | 1 => .int
  | 2 => .int
  | 3 => .int
  | 4 => .int
  | 5 => .int
  | 6 => .int
  | 7 => .int
  | 8 => .int
  | 9 => .array .int
  | 10 => .array .int
  | 11 => .array .int
  | 12 => .array .int
  | 13 => .array (.array .int)
  | 14 => .array (.array .int)
  | 15 => .array (.array .int)
  | 16 => .array (.array .int)
  | 17 => .array (.array .int)
  | 18 => .array (.array .int)
  | 19 => .array (.array .int)
  | 20 => .int
  | 21 => .int
  | 22 => .array (.array .int)
  | 23 => .array (.array .int)
  | 24 => .array (.array .int)
  | 25 => .array (.array .int)
  | 26 => .array .int
  | 27 => .array .int
  | 28 => .array (.array .int)
  | 29 => .int
  | 30 => .array .int
  | 31 => .array .int
  | 32 => .array .int
  | 33 => .array (.array .int)
  | 34 => .array (.array .int)
  | 35 => .int
  | 36 => .int
  | 37 => .int
  | 38 => .int
  | 39 => .int
  | 40 => .int
  | 41 => .int
  | 42 => .array .int
  | 43 => .int
  | 44 => .array .int
  | 45 => .array (.array .int)
  | 46 => .array (.array .int)
  | 47 => .int
  | 48 => .int
  | _ => .int
theorem nmX12 : ∀ a, a < 50 → ∀ b, b < 50 → a ≠ b → (TX12 a).2.1 ≠ (TX12 b).2.1 := by decide +kernel
theorem tyX12_ok : ∀ k, k < 50 → parseFieldDescriptor (TX12 k).2.2.1 = some (tyX12 k) := by decide +kernel
abbrev vwCl : List vw_C := [(RX0, TX0, 5), (RX1, TX1, 10), (RX2, TX2, 3), (RX3, TX3, 6), (RX4, TX4, 10), (RX5, TX5, 5), (RX6, TX6, 8), (RX7, TX7, 7), (RX8, TX8, 3), (RX9, TX9, 7), (RX10, TX10, 7), (RX11, TX11, 20), (RX12, TX12, 50)]
end
section
def mo_0 : List ix_Op := [(0, 1, .aload_n 0, 0, 0, 0, [], 0), (1, 1, .iload_n 2, 0, 0, 0, [], 0), (2, 3, .putfield 17, 0, 2, 0, [], 0), (5, 1, .aload_n 0, 0, 0, 0, [], 0), (6, 1, .iconst 0, 0, 0, 0, [], 0), (7, 3, .putfield 21, 0, 3, 0, [], 0), (10, 1, .aload_n 0, 0, 0, 0, [], 0), (11, 1, .iconst 0, 0, 0, 0, [], 0), (12, 3, .putfield 24, 0, 4, 0, [], 0), (15, 1, .iconst 0, 0, 0, 0, [], 0), (16, 2, .istore 6, 0, 0, 0, [], 0), (18, 2, .iload 6, 0, 0, 0, [], 0), (20, 1, .iload_n 3, 0, 0, 0, [], 0), (21, 3, .if_icmp .ge 115, 66, 0, 0, [], 0), (24, 1, .aload_n 0, 0, 0, 0, [], 0), (25, 2, .bipush 16, 0, 0, 0, [], 0), (27, 3, .invokevirtual 27, 1, 0, 2, [0], 0), (30, 2, .iload 4, 0, 0, 0, [], 0), (32, 3, .if_icmp .ge 41, 37, 0, 0, [], 0), (35, 1, .aload_n 0, 0, 0, 0, [], 0), (36, 3, .getfield 7, 0, 0, 0, [], 0), (39, 3, .getfield 31, 4, 7, 1, [], 0), (42, 3, .ifCond .le 31, 37, 0, 0, [], 0), (45, 1, .aload_n 1, 0, 0, 0, [], 0), (46, 1, .aload_n 0, 0, 0, 0, [], 0), (47, 1, .aload_n 0, 0, 0, 0, [], 0), (48, 3, .getfield 7, 0, 0, 0, [], 0), (51, 3, .getfield 31, 4, 7, 1, [], 0), (54, 3, .invokevirtual 27, 1, 0, 2, [0], 0), (57, 3, .invokevirtual 36, 89, 0, 2, [9], 0), (60, 3, .ifCond .eq 13, 37, 0, 0, [], 0), (63, 1, .aload_n 0, 0, 0, 0, [], 0), (64, 1, .dup, 0, 0, 0, [], 0), (65, 3, .getfield 21, 0, 3, 0, [], 0), (68, 1, .iconst 1, 0, 0, 0, [], 0), (69, 1, .iadd, 0, 0, 0, [], 0), (70, 3, .putfield 21, 0, 3, 0, [], 0), (73, 1, .aload_n 0, 0, 0, 0, [], 0), (74, 2, .bipush 16, 0, 0, 0, [], 0), (76, 3, .invokevirtual 27, 1, 0, 2, [0], 0), (79, 2, .iload 5, 0, 0, 0, [], 0), (81, 3, .if_icmp .ge 41, 60, 0, 0, [], 0), (84, 1, .aload_n 0, 0, 0, 0, [], 0), (85, 3, .getfield 7, 0, 0, 0, [], 0), (88, 3, .getfield 42, 4, 6, 1, [], 0), (91, 3, .ifCond .le 31, 60, 0, 0, [], 0), (94, 1, .aload_n 1, 0, 0, 0, [], 0), (95, 1, .aload_n 0, 0, 0, 0, [], 0), (96, 1, .aload_n 0, 0, 0, 0, [], 0), (97, 3, .getfield 7, 0, 0, 0, [], 0), (100, 3, .getfield 42, 4, 6, 1, [], 0), (103, 3, .invokevirtual 27, 1, 0, 2, [0], 0), (106, 3, .invokevirtual 45, 88, 0, 2, [9], 0), (109, 3, .ifCond .eq 13, 60, 0, 0, [], 0), (112, 1, .aload_n 0, 0, 0, 0, [], 0), (113, 1, .dup, 0, 0, 0, [], 0), (114, 3, .getfield 24, 0, 4, 0, [], 0), (117, 1, .iconst 1, 0, 0, 0, [], 0), (118, 1, .iadd, 0, 0, 0, [], 0), (119, 3, .putfield 24, 0, 4, 0, [], 0), (122, 1, .aload_n 0, 0, 0, 0, [], 0), (123, 3, .getfield 13, 0, 1, 0, [], 0), (126, 1, .aload_n 1, 0, 0, 0, [], 0), (127, 3, .invokevirtual 48, 72, 0, 2, [8], 0), (130, 3, .iinc 6 1, 0, 0, 0, [], 0), (133, 3, .goto (-115), 11, 0, 0, [], 0), (136, 1, .return_, 0, 0, 0, [], 0)]
def mt_0 : ix_M := (⟨"CryGorge$Century", "run", "(LCryGorge$State;IIII)V"⟩, prog_2_method_2_code, 7, (Option.none : Option FieldType), 6, 0, mo_0, [])
def mo_1 : List ix_Op := [(0, 1, .aload_n 0, 0, 0, 0, [], 0), (1, 1, .aload_n 0, 0, 0, 0, [], 0), (2, 3, .getfield 17, 0, 2, 0, [], 0), (5, 2, .ldc 54, 0, 0, 0, [], 1103515245), (7, 1, .imul, 0, 0, 0, [], 0), (8, 3, .sipush 12345, 0, 0, 0, [], 0), (11, 1, .iadd, 0, 0, 0, [], 0), (12, 3, .putfield 17, 0, 2, 0, [], 0), (15, 1, .aload_n 0, 0, 0, 0, [], 0), (16, 3, .getfield 17, 0, 2, 0, [], 0), (19, 2, .bipush 16, 0, 0, 0, [], 0), (21, 1, .iushr, 0, 0, 0, [], 0), (22, 3, .sipush 32767, 0, 0, 0, [], 0), (25, 1, .iand, 0, 0, 0, [], 0), (26, 1, .istore_n 2, 0, 0, 0, [], 0), (27, 1, .iload_n 1, 0, 0, 0, [], 0), (28, 3, .ifCond .le 9, 21, 0, 0, [], 0), (31, 1, .iload_n 2, 0, 0, 0, [], 0), (32, 1, .iload_n 1, 0, 0, 0, [], 0), (33, 1, .irem, 0, 0, 0, [], 0), (34, 3, .goto 4, 22, 0, 0, [], 0), (37, 1, .iconst 0, 0, 0, 0, [], 0), (38, 1, .ireturn, 0, 0, 0, [], 0)]
def mt_1 : ix_M := (⟨"CryGorge$Century", "draw", "(I)I"⟩, prog_2_method_3_code, 3, (Option.some FieldType.int), 2, 0, mo_1, [])
def mo_2 : List ix_Op := [(0, 1, .aload_n 0, 0, 0, 0, [], 0), (1, 3, .getfield 41, 1, 7, 0, [], 0), (4, 3, .ifCond .ne 7, 5, 0, 0, [], 0), (7, 1, .iconst (-1), 0, 0, 0, [], 0), (8, 3, .goto 19, 16, 0, 0, [], 0), (11, 2, .bipush 10, 0, 0, 0, [], 0), (13, 1, .aload_n 0, 0, 0, 0, [], 0), (14, 3, .getfield 11, 1, 3, 0, [], 0), (17, 1, .iconst 0, 0, 0, 0, [], 0), (18, 1, .iaload, 0, 0, 0, [], 0), (19, 1, .imul, 0, 0, 0, [], 0), (20, 1, .aload_n 0, 0, 0, 0, [], 0), (21, 3, .getfield 15, 1, 4, 0, [], 0), (24, 1, .iconst 0, 0, 0, 0, [], 0), (25, 1, .iaload, 0, 0, 0, [], 0), (26, 1, .iadd, 0, 0, 0, [], 0), (27, 1, .ireturn, 0, 0, 0, [], 0)]
def mt_2 : ix_M := (⟨"CryGorge$Guesses", "firstPair", "()I"⟩, prog_3_method_2_code, 1, (Option.some FieldType.int), 1, 1, mo_2, [])
def mo_3 : List ix_Op := [(0, 1, .aload_n 0, 0, 0, 0, [], 0), (1, 3, .getfield 37, 1, 2, 0, [], 0), (4, 1, .aload_n 2, 0, 0, 0, [], 0), (5, 3, .getfield 45, 9, 4, 1, [], 0), (8, 3, .putfield 45, 9, 4, 1, [], 0), (11, 1, .aload_n 0, 0, 0, 0, [], 0), (12, 1, .iconst 0, 0, 0, 0, [], 0), (13, 3, .putfield 41, 1, 7, 0, [], 0), (16, 1, .iconst 0, 0, 0, 0, [], 0), (17, 1, .istore_n 3, 0, 0, 0, [], 0), (18, 1, .iload_n 3, 0, 0, 0, [], 0), (19, 1, .aload_n 0, 0, 0, 0, [], 0), (20, 3, .getfield 24, 1, 0, 0, [], 0), (23, 3, .getfield 48, 4, 7, 1, [], 0), (26, 3, .if_icmp .ge 81, 54, 0, 0, [], 0), (29, 1, .iconst 0, 0, 0, 0, [], 0), (30, 2, .istore 4, 0, 0, 0, [], 0), (32, 2, .iload 4, 0, 0, 0, [], 0), (34, 1, .aload_n 0, 0, 0, 0, [], 0), (35, 3, .getfield 24, 1, 0, 0, [], 0), (38, 3, .getfield 53, 4, 6, 1, [], 0), (41, 3, .if_icmp .ge 60, 52, 0, 0, [], 0), (44, 1, .aload_n 0, 0, 0, 0, [], 0), (45, 1, .iload_n 3, 0, 0, 0, [], 0), (46, 2, .iload 4, 0, 0, 0, [], 0), (48, 1, .aload_n 1, 0, 0, 0, [], 0), (49, 3, .invokevirtual 56, 4, 0, 4, [1], 0), (52, 3, .ifCond .eq 43, 50, 0, 0, [], 0), (55, 1, .aload_n 0, 0, 0, 0, [], 0), (56, 3, .getfield 41, 1, 7, 0, [], 0), (59, 2, .bipush 48, 0, 0, 0, [], 0), (61, 3, .if_icmp .ge 34, 50, 0, 0, [], 0), (64, 1, .aload_n 0, 0, 0, 0, [], 0), (65, 3, .getfield 11, 1, 3, 0, [], 0), (68, 1, .aload_n 0, 0, 0, 0, [], 0), (69, 3, .getfield 41, 1, 7, 0, [], 0), (72, 1, .iload_n 3, 0, 0, 0, [], 0), (73, 1, .iastore, 0, 0, 0, [], 0), (74, 1, .aload_n 0, 0, 0, 0, [], 0), (75, 3, .getfield 15, 1, 4, 0, [], 0), (78, 1, .aload_n 0, 0, 0, 0, [], 0), (79, 3, .getfield 41, 1, 7, 0, [], 0), (82, 2, .iload 4, 0, 0, 0, [], 0), (84, 1, .iastore, 0, 0, 0, [], 0), (85, 1, .aload_n 0, 0, 0, 0, [], 0), (86, 1, .dup, 0, 0, 0, [], 0), (87, 3, .getfield 41, 1, 7, 0, [], 0), (90, 1, .iconst 1, 0, 0, 0, [], 0), (91, 1, .iadd, 0, 0, 0, [], 0), (92, 3, .putfield 41, 1, 7, 0, [], 0), (95, 3, .iinc 4 1, 0, 0, 0, [], 0), (98, 3, .goto (-66), 17, 0, 0, [], 0), (101, 3, .iinc 3 1, 0, 0, 0, [], 0), (104, 3, .goto (-86), 10, 0, 0, [], 0), (107, 1, .return_, 0, 0, 0, [], 0)]
def mt_3 : ix_M := (⟨"CryGorge$Guesses", "match", "(LCryGorge$Heard;LCryGorge$State;)V"⟩, prog_3_method_3_code, 5, (Option.none : Option FieldType), 3, 1, mo_3, [])
def mo_4 : List ix_Op := [(0, 1, .aload_n 0, 0, 0, 0, [], 0), (1, 3, .getfield 24, 1, 0, 0, [], 0), (4, 3, .getfield 60, 4, 3, 1, [], 0), (7, 1, .iload_n 1, 0, 0, 0, [], 0), (8, 1, .iaload, 0, 0, 0, [], 0), (9, 2, .istore 4, 0, 0, 0, [], 0), (11, 1, .iconst 0, 0, 0, 0, [], 0), (12, 2, .istore 5, 0, 0, 0, [], 0), (14, 1, .iconst 0, 0, 0, 0, [], 0), (15, 2, .istore 6, 0, 0, 0, [], 0), (17, 2, .iload 6, 0, 0, 0, [], 0), (19, 2, .bipush 40, 0, 0, 0, [], 0), (21, 3, .if_icmp .gt 69, 47, 0, 0, [], 0), (24, 2, .iload 5, 0, 0, 0, [], 0), (26, 1, .aload_n 3, 0, 0, 0, [], 0), (27, 3, .getfield 63, 2, 2, 1, [], 0), (30, 3, .if_icmp .ge 60, 47, 0, 0, [], 0), (33, 1, .aload_n 3, 0, 0, 0, [], 0), (34, 2, .iload 6, 0, 0, 0, [], 0), (36, 3, .invokevirtual 68, 11, 0, 2, [2], 0), (39, 2, .istore 7, 0, 0, 0, [], 0), (41, 2, .iload 7, 0, 0, 0, [], 0), (43, 1, .iconst (-1), 0, 0, 0, [], 0), (44, 3, .if_icmp .eq 12, 29, 0, 0, [], 0), (47, 2, .iload 7, 0, 0, 0, [], 0), (49, 2, .iload 4, 0, 0, 0, [], 0), (51, 3, .if_icmp .eq 5, 29, 0, 0, [], 0), (54, 1, .iconst 0, 0, 0, 0, [], 0), (55, 1, .ireturn, 1, 0, 0, [], 0), (56, 2, .iload 5, 0, 0, 0, [], 0), (58, 2, .iload 7, 0, 0, 0, [], 0), (60, 1, .iconst (-1), 0, 0, 0, [], 0), (61, 3, .if_icmp .ne 7, 35, 0, 0, [], 0), (64, 1, .iconst 0, 0, 0, 0, [], 0), (65, 3, .goto 4, 36, 0, 0, [], 0), (68, 1, .iconst 1, 0, 0, 0, [], 0), (69, 1, .iadd, 0, 0, 0, [], 0), (70, 2, .istore 5, 0, 0, 0, [], 0), (72, 1, .aload_n 0, 0, 0, 0, [], 0), (73, 1, .iload_n 1, 0, 0, 0, [], 0), (74, 1, .iload_n 2, 0, 0, 0, [], 0), (75, 2, .iload 4, 0, 0, 0, [], 0), (77, 2, .iload 6, 0, 0, 0, [], 0), (79, 3, .invokevirtual 72, 5, 0, 5, [1], 0), (82, 2, .istore 4, 0, 0, 0, [], 0), (84, 3, .iinc 6 1, 0, 0, 0, [], 0), (87, 3, .goto (-70), 10, 0, 0, [], 0), (90, 1, .iconst 1, 0, 0, 0, [], 0), (91, 1, .ireturn, 1, 0, 0, [], 0)]
def mt_4 : ix_M := (⟨"CryGorge$Guesses", "fits", "(IILCryGorge$Heard;)Z"⟩, prog_3_method_4_code, 8, (Option.some FieldType.boolean), 4, 1, mo_4, [])
def mo_5 : List ix_Op := [(0, 1, .aload_n 0, 0, 0, 0, [], 0), (1, 3, .getfield 37, 1, 2, 0, [], 0), (4, 3, .getfield 76, 9, 1, 1, [], 0), (7, 1, .iload_n 1, 0, 0, 0, [], 0), (8, 1, .iload_n 3, 0, 0, 0, [], 0), (9, 1, .iastore, 0, 0, 0, [], 0), (10, 1, .aload_n 0, 0, 0, 0, [], 0), (11, 3, .getfield 37, 1, 2, 0, [], 0), (14, 3, .getfield 77, 9, 2, 1, [], 0), (17, 1, .iload_n 1, 0, 0, 0, [], 0), (18, 2, .iload 4, 0, 0, 0, [], 0), (20, 1, .iastore, 0, 0, 0, [], 0), (21, 1, .aload_n 0, 0, 0, 0, [], 0), (22, 3, .getfield 37, 1, 2, 0, [], 0), (25, 2, .iload 4, 0, 0, 0, [], 0), (27, 3, .putfield 80, 9, 6, 1, [], 0), (30, 1, .iload_n 3, 0, 0, 0, [], 0), (31, 1, .aload_n 0, 0, 0, 0, [], 0), (32, 3, .getfield 28, 1, 1, 0, [], 0), (35, 1, .aload_n 0, 0, 0, 0, [], 0), (36, 3, .getfield 37, 1, 2, 0, [], 0), (39, 1, .iload_n 1, 0, 0, 0, [], 0), (40, 1, .iload_n 2, 0, 0, 0, [], 0), (41, 1, .iconst 0, 0, 0, 0, [], 0), (42, 3, .invokevirtual 83, 70, 0, 5, [8], 0), (45, 1, .isub, 0, 0, 0, [], 0), (46, 1, .ireturn, 0, 0, 0, [], 0)]
def mt_5 : ix_M := (⟨"CryGorge$Guesses", "yearLater", "(IIII)I"⟩, prog_3_method_5_code, 5, (Option.some FieldType.int), 5, 1, mo_5, [])
def mo_6 : List ix_Op := [(0, 1, .aload_n 0, 0, 0, 0, [], 0), (1, 1, .iconst (-1), 0, 0, 0, [], 0), (2, 3, .putfield 89, 1, 8, 0, [], 0), (5, 1, .aload_n 0, 0, 0, 0, [], 0), (6, 1, .iconst 0, 0, 0, 0, [], 0), (7, 3, .putfield 92, 1, 9, 0, [], 0), (10, 1, .iconst 0, 0, 0, 0, [], 0), (11, 1, .istore_n 2, 0, 0, 0, [], 0), (12, 1, .iload_n 2, 0, 0, 0, [], 0), (13, 1, .aload_n 0, 0, 0, 0, [], 0), (14, 3, .getfield 41, 1, 7, 0, [], 0), (17, 3, .if_icmp .ge 29, 26, 0, 0, [], 0), (20, 1, .aload_n 0, 0, 0, 0, [], 0), (21, 3, .getfield 18, 1, 5, 0, [], 0), (24, 1, .iload_n 2, 0, 0, 0, [], 0), (25, 1, .aload_n 0, 0, 0, 0, [], 0), (26, 3, .getfield 24, 1, 0, 0, [], 0), (29, 3, .getfield 60, 4, 3, 1, [], 0), (32, 1, .aload_n 0, 0, 0, 0, [], 0), (33, 3, .getfield 11, 1, 3, 0, [], 0), (36, 1, .iload_n 2, 0, 0, 0, [], 0), (37, 1, .iaload, 0, 0, 0, [], 0), (38, 1, .iaload, 0, 0, 0, [], 0), (39, 1, .iastore, 0, 0, 0, [], 0), (40, 3, .iinc 2 1, 0, 0, 0, [], 0), (43, 3, .goto (-31), 8, 0, 0, [], 0), (46, 1, .iconst 0, 0, 0, 0, [], 0), (47, 1, .istore_n 2, 0, 0, 0, [], 0), (48, 1, .iload_n 2, 0, 0, 0, [], 0), (49, 2, .bipush 40, 0, 0, 0, [], 0), (51, 3, .if_icmp .gt 68, 68, 0, 0, [], 0), (54, 1, .aload_n 1, 0, 0, 0, [], 0), (55, 1, .iload_n 2, 0, 0, 0, [], 0), (56, 3, .invokevirtual 68, 11, 0, 2, [2], 0), (59, 1, .iconst (-1), 0, 0, 0, [], 0), (60, 3, .if_icmp .ne 8, 39, 0, 0, [], 0), (63, 1, .aload_n 0, 0, 0, 0, [], 0), (64, 1, .iload_n 2, 0, 0, 0, [], 0), (65, 3, .invokevirtual 95, 7, 0, 2, [1], 0), (68, 1, .iconst 0, 0, 0, 0, [], 0), (69, 1, .istore_n 3, 0, 0, 0, [], 0), (70, 1, .iload_n 3, 0, 0, 0, [], 0), (71, 1, .aload_n 0, 0, 0, 0, [], 0), (72, 3, .getfield 41, 1, 7, 0, [], 0), (75, 3, .if_icmp .ge 38, 66, 0, 0, [], 0), (78, 1, .aload_n 0, 0, 0, 0, [], 0), (79, 3, .getfield 18, 1, 5, 0, [], 0), (82, 1, .iload_n 3, 0, 0, 0, [], 0), (83, 1, .aload_n 0, 0, 0, 0, [], 0), (84, 1, .aload_n 0, 0, 0, 0, [], 0), (85, 3, .getfield 11, 1, 3, 0, [], 0), (88, 1, .iload_n 3, 0, 0, 0, [], 0), (89, 1, .iaload, 0, 0, 0, [], 0), (90, 1, .aload_n 0, 0, 0, 0, [], 0), (91, 3, .getfield 15, 1, 4, 0, [], 0), (94, 1, .iload_n 3, 0, 0, 0, [], 0), (95, 1, .iaload, 0, 0, 0, [], 0), (96, 1, .aload_n 0, 0, 0, 0, [], 0), (97, 3, .getfield 18, 1, 5, 0, [], 0), (100, 1, .iload_n 3, 0, 0, 0, [], 0), (101, 1, .iaload, 0, 0, 0, [], 0), (102, 1, .iload_n 2, 0, 0, 0, [], 0), (103, 3, .invokevirtual 72, 5, 0, 5, [1], 0), (106, 1, .iastore, 0, 0, 0, [], 0), (107, 3, .iinc 3 1, 0, 0, 0, [], 0), (110, 3, .goto (-40), 41, 0, 0, [], 0), (113, 3, .iinc 2 1, 0, 0, 0, [], 0), (116, 3, .goto (-68), 28, 0, 0, [], 0), (119, 1, .return_, 0, 0, 0, [], 0)]
def mt_6 : ix_M := (⟨"CryGorge$Guesses", "weighAges", "(LCryGorge$Heard;)V"⟩, prog_3_method_6_code, 4, (Option.none : Option FieldType), 2, 1, mo_6, [])
def mo_7 : List ix_Op := [(0, 1, .aload_n 0, 0, 0, 0, [], 0), (1, 3, .invokevirtual 99, 8, 0, 1, [1], 0), (4, 1, .istore_n 2, 0, 0, 0, [], 0), (5, 1, .aload_n 0, 0, 0, 0, [], 0), (6, 3, .getfield 89, 1, 8, 0, [], 0), (9, 1, .iconst (-1), 0, 0, 0, [], 0), (10, 3, .if_icmp .eq 11, 11, 0, 0, [], 0), (13, 1, .iload_n 2, 0, 0, 0, [], 0), (14, 1, .aload_n 0, 0, 0, 0, [], 0), (15, 3, .getfield 92, 1, 9, 0, [], 0), (18, 3, .if_icmp .ge 13, 17, 0, 0, [], 0), (21, 1, .aload_n 0, 0, 0, 0, [], 0), (22, 1, .iload_n 1, 0, 0, 0, [], 0), (23, 3, .putfield 89, 1, 8, 0, [], 0), (26, 1, .aload_n 0, 0, 0, 0, [], 0), (27, 1, .iload_n 2, 0, 0, 0, [], 0), (28, 3, .putfield 92, 1, 9, 0, [], 0), (31, 1, .return_, 0, 0, 0, [], 0)]
def mt_7 : ix_M := (⟨"CryGorge$Guesses", "weigh", "(I)V"⟩, prog_3_method_7_code, 3, (Option.none : Option FieldType), 2, 1, mo_7, [])
def mo_8 : List ix_Op := [(0, 1, .iconst 0, 0, 0, 0, [], 0), (1, 1, .istore_n 1, 0, 0, 0, [], 0), (2, 1, .iload_n 1, 0, 0, 0, [], 0), (3, 2, .bipush 99, 0, 0, 0, [], 0), (5, 3, .if_icmp .gt 16, 12, 0, 0, [], 0), (8, 1, .aload_n 0, 0, 0, 0, [], 0), (9, 3, .getfield 21, 1, 6, 0, [], 0), (12, 1, .iload_n 1, 0, 0, 0, [], 0), (13, 1, .iconst 0, 0, 0, 0, [], 0), (14, 1, .iastore, 0, 0, 0, [], 0), (15, 3, .iinc 1 1, 0, 0, 0, [], 0), (18, 3, .goto (-16), 2, 0, 0, [], 0), (21, 1, .iconst 0, 0, 0, 0, [], 0), (22, 1, .istore_n 1, 0, 0, 0, [], 0), (23, 1, .iconst 0, 0, 0, 0, [], 0), (24, 1, .istore_n 2, 0, 0, 0, [], 0), (25, 1, .iload_n 2, 0, 0, 0, [], 0), (26, 1, .aload_n 0, 0, 0, 0, [], 0), (27, 3, .getfield 41, 1, 7, 0, [], 0), (30, 3, .if_icmp .ge 47, 47, 0, 0, [], 0), (33, 1, .aload_n 0, 0, 0, 0, [], 0), (34, 3, .getfield 18, 1, 5, 0, [], 0), (37, 1, .iload_n 2, 0, 0, 0, [], 0), (38, 1, .iaload, 0, 0, 0, [], 0), (39, 1, .istore_n 3, 0, 0, 0, [], 0), (40, 1, .iload_n 3, 0, 0, 0, [], 0), (41, 3, .ifCond .lt 30, 45, 0, 0, [], 0), (44, 1, .iload_n 3, 0, 0, 0, [], 0), (45, 2, .bipush 99, 0, 0, 0, [], 0), (47, 3, .if_icmp .gt 24, 45, 0, 0, [], 0), (50, 1, .aload_n 0, 0, 0, 0, [], 0), (51, 3, .getfield 21, 1, 6, 0, [], 0), (54, 1, .iload_n 3, 0, 0, 0, [], 0), (55, 1, .dup2, 0, 0, 0, [], 0), (56, 1, .iaload, 0, 0, 0, [], 0), (57, 1, .iconst 1, 0, 0, 0, [], 0), (58, 1, .iadd, 0, 0, 0, [], 0), (59, 1, .iastore, 0, 0, 0, [], 0), (60, 1, .iload_n 1, 0, 0, 0, [], 0), (61, 1, .aload_n 0, 0, 0, 0, [], 0), (62, 3, .getfield 21, 1, 6, 0, [], 0), (65, 1, .iload_n 3, 0, 0, 0, [], 0), (66, 1, .iaload, 0, 0, 0, [], 0), (67, 3, .invokestatic 103, 0, 4, 2, [], 0), (70, 1, .istore_n 1, 0, 0, 0, [], 0), (71, 3, .iinc 2 1, 0, 0, 0, [], 0), (74, 3, .goto (-49), 16, 0, 0, [], 0), (77, 1, .iload_n 1, 0, 0, 0, [], 0), (78, 1, .ireturn, 0, 0, 0, [], 0)]
def mt_8 : ix_M := (⟨"CryGorge$Guesses", "leftAtWorst", "()I"⟩, prog_3_method_8_code, 4, (Option.some FieldType.int), 1, 1, mo_8, [])
def mo_9 : List ix_Op := [(0, 1, .aload_n 0, 0, 0, 0, [], 0), (1, 1, .iconst 0, 0, 0, 0, [], 0), (2, 3, .putfield 18, 2, 2, 0, [], 0), (5, 1, .return_, 0, 0, 0, [], 0)]
def mt_9 : ix_M := (⟨"CryGorge$Heard", "clear", "()V"⟩, prog_4_method_2_code, 1, (Option.none : Option FieldType), 1, 2, mo_9, [])
def mo_10 : List ix_Op := [(0, 1, .aload_n 0, 0, 0, 0, [], 0), (1, 1, .aload_n 1, 0, 0, 0, [], 0), (2, 3, .getfield 18, 2, 2, 0, [], 0), (5, 3, .putfield 18, 2, 2, 0, [], 0), (8, 1, .aload_n 1, 0, 0, 0, [], 0), (9, 3, .getfield 9, 2, 0, 0, [], 0), (12, 1, .iconst 0, 0, 0, 0, [], 0), (13, 1, .aload_n 0, 0, 0, 0, [], 0), (14, 3, .getfield 9, 2, 0, 0, [], 0), (17, 1, .iconst 0, 0, 0, 0, [], 0), (18, 2, .bipush 6, 0, 0, 0, [], 0), (20, 3, .invokestatic 22, 0, 7, 5, [], 0), (23, 1, .aload_n 1, 0, 0, 0, [], 0), (24, 3, .getfield 15, 2, 1, 0, [], 0), (27, 1, .iconst 0, 0, 0, 0, [], 0), (28, 1, .aload_n 0, 0, 0, 0, [], 0), (29, 3, .getfield 15, 2, 1, 0, [], 0), (32, 1, .iconst 0, 0, 0, 0, [], 0), (33, 2, .bipush 6, 0, 0, 0, [], 0), (35, 3, .invokestatic 22, 0, 7, 5, [], 0), (38, 1, .return_, 0, 0, 0, [], 0)]
def mt_10 : ix_M := (⟨"CryGorge$Heard", "copyFrom", "(LCryGorge$Heard;)V"⟩, prog_4_method_3_code, 2, (Option.none : Option FieldType), 2, 2, mo_10, [])
def mo_11 : List ix_Op := [(0, 1, .iconst 0, 0, 0, 0, [], 0), (1, 1, .istore_n 2, 0, 0, 0, [], 0), (2, 1, .iload_n 2, 0, 0, 0, [], 0), (3, 1, .aload_n 0, 0, 0, 0, [], 0), (4, 3, .getfield 18, 2, 2, 0, [], 0), (7, 3, .if_icmp .ge 26, 19, 0, 0, [], 0), (10, 1, .aload_n 0, 0, 0, 0, [], 0), (11, 3, .getfield 9, 2, 0, 0, [], 0), (14, 1, .iload_n 2, 0, 0, 0, [], 0), (15, 1, .iaload, 0, 0, 0, [], 0), (16, 1, .iload_n 1, 0, 0, 0, [], 0), (17, 3, .if_icmp .ne 10, 17, 0, 0, [], 0), (20, 1, .aload_n 0, 0, 0, 0, [], 0), (21, 3, .getfield 15, 2, 1, 0, [], 0), (24, 1, .iload_n 2, 0, 0, 0, [], 0), (25, 1, .iaload, 0, 0, 0, [], 0), (26, 1, .ireturn, 0, 0, 0, [], 0), (27, 3, .iinc 2 1, 0, 0, 0, [], 0), (30, 3, .goto (-28), 2, 0, 0, [], 0), (33, 1, .iconst (-1), 0, 0, 0, [], 0), (34, 1, .ireturn, 0, 0, 0, [], 0)]
def mt_11 : ix_M := (⟨"CryGorge$Heard", "strengthAt", "(I)I"⟩, prog_4_method_4_code, 3, (Option.some FieldType.int), 2, 2, mo_11, [])
def mo_12 : List ix_Op := [(0, 1, .aload_n 0, 0, 0, 0, [], 0), (1, 1, .iconst 0, 0, 0, 0, [], 0), (2, 3, .putfield 18, 2, 2, 0, [], 0), (5, 1, .iconst 0, 0, 0, 0, [], 0), (6, 1, .istore_n 2, 0, 0, 0, [], 0), (7, 1, .iload_n 2, 0, 0, 0, [], 0), (8, 2, .bipush 6, 0, 0, 0, [], 0), (10, 3, .if_icmp .gt 111, 65, 0, 0, [], 0), (13, 1, .aload_n 1, 0, 0, 0, [], 0), (14, 3, .invokevirtual 28, 61, 0, 1, [7], 0), (17, 3, .ifCond .eq 104, 65, 0, 0, [], 0), (20, 1, .aload_n 1, 0, 0, 0, [], 0), (21, 1, .iconst 0, 0, 0, 0, [], 0), (22, 2, .bipush 40, 0, 0, 0, [], 0), (24, 3, .invokevirtual 34, 64, 0, 3, [7], 0), (27, 1, .istore_n 3, 0, 0, 0, [], 0), (28, 1, .aload_n 0, 0, 0, 0, [], 0), (29, 1, .iload_n 3, 0, 0, 0, [], 0), (30, 3, .invokevirtual 38, 11, 0, 2, [2], 0), (33, 1, .iconst (-1), 0, 0, 0, [], 0), (34, 3, .if_icmp .eq 8, 24, 0, 0, [], 0), (37, 1, .aload_n 1, 0, 0, 0, [], 0), (38, 1, .iconst 2, 0, 0, 0, [], 0), (39, 3, .invokevirtual 42, 59, 0, 2, [7], 0), (42, 1, .iload_n 2, 0, 0, 0, [], 0), (43, 2, .bipush 6, 0, 0, 0, [], 0), (45, 3, .if_icmp .ne 8, 30, 0, 0, [], 0), (48, 1, .aload_n 1, 0, 0, 0, [], 0), (49, 1, .iconst 3, 0, 0, 0, [], 0), (50, 3, .invokevirtual 42, 59, 0, 2, [7], 0), (53, 1, .aload_n 1, 0, 0, 0, [], 0), (54, 1, .iconst 0, 0, 0, 0, [], 0), (55, 2, .bipush 99, 0, 0, 0, [], 0), (57, 3, .invokevirtual 34, 64, 0, 3, [7], 0), (60, 2, .istore 4, 0, 0, 0, [], 0), (62, 1, .aload_n 1, 0, 0, 0, [], 0), (63, 2, .bipush 59, 0, 0, 0, [], 0), (65, 3, .invokevirtual 46, 63, 0, 2, [7], 0), (68, 1, .aload_n 1, 0, 0, 0, [], 0), (69, 3, .invokevirtual 50, 56, 0, 1, [7], 0), (72, 3, .ifCond .ne 43, 63, 0, 0, [], 0), (75, 1, .aload_n 0, 0, 0, 0, [], 0), (76, 3, .getfield 18, 2, 2, 0, [], 0), (79, 2, .bipush 6, 0, 0, 0, [], 0), (81, 3, .if_icmp .ge 34, 63, 0, 0, [], 0), (84, 1, .aload_n 0, 0, 0, 0, [], 0), (85, 3, .getfield 9, 2, 0, 0, [], 0), (88, 1, .aload_n 0, 0, 0, 0, [], 0), (89, 3, .getfield 18, 2, 2, 0, [], 0), (92, 1, .iload_n 3, 0, 0, 0, [], 0), (93, 1, .iastore, 0, 0, 0, [], 0), (94, 1, .aload_n 0, 0, 0, 0, [], 0), (95, 3, .getfield 15, 2, 1, 0, [], 0), (98, 1, .aload_n 0, 0, 0, 0, [], 0), (99, 3, .getfield 18, 2, 2, 0, [], 0), (102, 2, .iload 4, 0, 0, 0, [], 0), (104, 1, .iastore, 0, 0, 0, [], 0), (105, 1, .aload_n 0, 0, 0, 0, [], 0), (106, 1, .dup, 0, 0, 0, [], 0), (107, 3, .getfield 18, 2, 2, 0, [], 0), (110, 1, .iconst 1, 0, 0, 0, [], 0), (111, 1, .iadd, 0, 0, 0, [], 0), (112, 3, .putfield 18, 2, 2, 0, [], 0), (115, 3, .iinc 2 1, 0, 0, 0, [], 0), (118, 3, .goto (-111), 5, 0, 0, [], 0), (121, 1, .return_, 0, 0, 0, [], 0)]
def mt_12 : ix_M := (⟨"CryGorge$Heard", "read", "(LCryGorge$Reader;)V"⟩, prog_4_method_5_code, 5, (Option.none : Option FieldType), 2, 2, mo_12, [])
def mo_13 : List ix_Op := [(0, 1, .aload_n 0, 0, 0, 0, [], 0), (1, 1, .iconst 0, 0, 0, 0, [], 0), (2, 3, .putfield 23, 3, 3, 0, [], 0), (5, 1, .aload_n 0, 0, 0, 0, [], 0), (6, 1, .iconst 0, 0, 0, 0, [], 0), (7, 3, .putfield 27, 3, 4, 0, [], 0), (10, 1, .aload_n 0, 0, 0, 0, [], 0), (11, 1, .iconst 0, 0, 0, 0, [], 0), (12, 3, .putfield 30, 3, 5, 0, [], 0), (15, 1, .return_, 0, 0, 0, [], 0)]
def mt_13 : ix_M := (⟨"CryGorge$History", "clear", "()V"⟩, prog_5_method_2_code, 1, (Option.none : Option FieldType), 1, 3, mo_13, [])
def mo_14 : List ix_Op := [(0, 1, .aload_n 0, 0, 0, 0, [], 0), (1, 3, .getfield 23, 3, 3, 0, [], 0), (4, 2, .bipush 16, 0, 0, 0, [], 0), (6, 3, .if_icmp .lt 7, 6, 0, 0, [], 0), (9, 1, .iconst 1, 0, 0, 0, [], 0), (10, 3, .goto 4, 7, 0, 0, [], 0), (13, 1, .iconst 0, 0, 0, 0, [], 0), (14, 1, .ireturn, 1, 0, 0, [], 0)]
def mt_14 : ix_M := (⟨"CryGorge$History", "isFull", "()Z"⟩, prog_5_method_3_code, 1, (Option.some FieldType.boolean), 1, 3, mo_14, [])
def mo_15 : List ix_Op := [(0, 1, .aload_n 0, 0, 0, 0, [], 0), (1, 3, .invokevirtual 33, 14, 0, 1, [3], 0), (4, 3, .ifCond .ne 28, 17, 0, 0, [], 0), (7, 1, .aload_n 1, 0, 0, 0, [], 0), (8, 1, .aload_n 0, 0, 0, 0, [], 0), (9, 3, .getfield 13, 3, 0, 0, [], 0), (12, 1, .aload_n 0, 0, 0, 0, [], 0), (13, 3, .getfield 23, 3, 3, 0, [], 0), (16, 2, .bipush 27, 0, 0, 0, [], 0), (18, 1, .imul, 0, 0, 0, [], 0), (19, 3, .invokevirtual 37, 75, 0, 3, [9], 0), (22, 1, .aload_n 0, 0, 0, 0, [], 0), (23, 1, .dup, 0, 0, 0, [], 0), (24, 3, .getfield 23, 3, 3, 0, [], 0), (27, 1, .iconst 1, 0, 0, 0, [], 0), (28, 1, .iadd, 0, 0, 0, [], 0), (29, 3, .putfield 23, 3, 3, 0, [], 0), (32, 1, .return_, 0, 0, 0, [], 0)]
def mt_15 : ix_M := (⟨"CryGorge$History", "push", "(LCryGorge$State;)V"⟩, prog_5_method_4_code, 2, (Option.none : Option FieldType), 2, 3, mo_15, [])
def mo_16 : List ix_Op := [(0, 1, .aload_n 0, 0, 0, 0, [], 0), (1, 3, .getfield 23, 3, 3, 0, [], 0), (4, 3, .ifCond .gt 5, 5, 0, 0, [], 0), (7, 1, .iconst 0, 0, 0, 0, [], 0), (8, 1, .ireturn, 1, 0, 0, [], 0), (9, 1, .aload_n 0, 0, 0, 0, [], 0), (10, 1, .dup, 0, 0, 0, [], 0), (11, 3, .getfield 23, 3, 3, 0, [], 0), (14, 1, .iconst 1, 0, 0, 0, [], 0), (15, 1, .isub, 0, 0, 0, [], 0), (16, 3, .putfield 23, 3, 3, 0, [], 0), (19, 1, .aload_n 0, 0, 0, 0, [], 0), (20, 1, .iconst 0, 0, 0, 0, [], 0), (21, 3, .putfield 30, 3, 5, 0, [], 0), (24, 1, .aload_n 1, 0, 0, 0, [], 0), (25, 1, .aload_n 0, 0, 0, 0, [], 0), (26, 3, .getfield 13, 3, 0, 0, [], 0), (29, 1, .aload_n 0, 0, 0, 0, [], 0), (30, 3, .getfield 23, 3, 3, 0, [], 0), (33, 2, .bipush 27, 0, 0, 0, [], 0), (35, 1, .imul, 0, 0, 0, [], 0), (36, 3, .invokevirtual 41, 76, 0, 3, [9], 0), (39, 1, .iconst 1, 0, 0, 0, [], 0), (40, 1, .ireturn, 1, 0, 0, [], 0)]
def mt_16 : ix_M := (⟨"CryGorge$History", "pop", "(LCryGorge$State;)Z"⟩, prog_5_method_5_code, 2, (Option.some FieldType.boolean), 2, 3, mo_16, [])
def mo_17 : List ix_Op := [(0, 1, .aload_n 0, 0, 0, 0, [], 0), (1, 3, .getfield 27, 3, 4, 0, [], 0), (4, 1, .iconst 3, 0, 0, 0, [], 0), (5, 3, .if_icmp .lt 5, 6, 0, 0, [], 0), (8, 1, .iconst 0, 0, 0, 0, [], 0), (9, 1, .ireturn, 1, 0, 0, [], 0), (10, 1, .aload_n 0, 0, 0, 0, [], 0), (11, 3, .getfield 27, 3, 4, 0, [], 0), (14, 3, .sipush 459, 0, 0, 0, [], 0), (17, 1, .imul, 0, 0, 0, [], 0), (18, 1, .istore_n 2, 0, 0, 0, [], 0), (19, 1, .aload_n 1, 0, 0, 0, [], 0), (20, 1, .aload_n 0, 0, 0, 0, [], 0), (21, 3, .getfield 17, 3, 1, 0, [], 0), (24, 1, .iload_n 2, 0, 0, 0, [], 0), (25, 3, .invokevirtual 37, 75, 0, 3, [9], 0), (28, 1, .aload_n 0, 0, 0, 0, [], 0), (29, 3, .getfield 13, 3, 0, 0, [], 0), (32, 1, .iconst 0, 0, 0, 0, [], 0), (33, 1, .aload_n 0, 0, 0, 0, [], 0), (34, 3, .getfield 17, 3, 1, 0, [], 0), (37, 1, .iload_n 2, 0, 0, 0, [], 0), (38, 2, .bipush 27, 0, 0, 0, [], 0), (40, 1, .iadd, 0, 0, 0, [], 0), (41, 3, .sipush 432, 0, 0, 0, [], 0), (44, 3, .invokestatic 44, 0, 7, 5, [], 0), (47, 1, .aload_n 0, 0, 0, 0, [], 0), (48, 3, .getfield 20, 3, 2, 0, [], 0), (51, 1, .aload_n 0, 0, 0, 0, [], 0), (52, 3, .getfield 27, 3, 4, 0, [], 0), (55, 1, .aload_n 0, 0, 0, 0, [], 0), (56, 3, .getfield 23, 3, 3, 0, [], 0), (59, 1, .iastore, 0, 0, 0, [], 0), (60, 1, .aload_n 0, 0, 0, 0, [], 0), (61, 1, .dup, 0, 0, 0, [], 0), (62, 3, .getfield 27, 3, 4, 0, [], 0), (65, 1, .iconst 1, 0, 0, 0, [], 0), (66, 1, .iadd, 0, 0, 0, [], 0), (67, 3, .putfield 27, 3, 4, 0, [], 0), (70, 1, .iconst 1, 0, 0, 0, [], 0), (71, 1, .ireturn, 1, 0, 0, [], 0)]
def mt_17 : ix_M := (⟨"CryGorge$History", "saveImage", "(LCryGorge$State;)Z"⟩, prog_5_method_6_code, 3, (Option.some FieldType.boolean), 2, 3, mo_17, [])
def mo_18 : List ix_Op := [(0, 1, .aload_n 0, 0, 0, 0, [], 0), (1, 3, .getfield 27, 3, 4, 0, [], 0), (4, 3, .ifCond .gt 5, 5, 0, 0, [], 0), (7, 1, .iconst 0, 0, 0, 0, [], 0), (8, 1, .ireturn, 1, 0, 0, [], 0), (9, 1, .aload_n 0, 0, 0, 0, [], 0), (10, 1, .dup, 0, 0, 0, [], 0), (11, 3, .getfield 27, 3, 4, 0, [], 0), (14, 1, .iconst 1, 0, 0, 0, [], 0), (15, 1, .isub, 0, 0, 0, [], 0), (16, 3, .putfield 27, 3, 4, 0, [], 0), (19, 1, .aload_n 0, 0, 0, 0, [], 0), (20, 3, .getfield 27, 3, 4, 0, [], 0), (23, 3, .sipush 459, 0, 0, 0, [], 0), (26, 1, .imul, 0, 0, 0, [], 0), (27, 1, .istore_n 2, 0, 0, 0, [], 0), (28, 1, .aload_n 1, 0, 0, 0, [], 0), (29, 1, .aload_n 0, 0, 0, 0, [], 0), (30, 3, .getfield 17, 3, 1, 0, [], 0), (33, 1, .iload_n 2, 0, 0, 0, [], 0), (34, 3, .invokevirtual 41, 76, 0, 3, [9], 0), (37, 1, .aload_n 0, 0, 0, 0, [], 0), (38, 3, .getfield 17, 3, 1, 0, [], 0), (41, 1, .iload_n 2, 0, 0, 0, [], 0), (42, 2, .bipush 27, 0, 0, 0, [], 0), (44, 1, .iadd, 0, 0, 0, [], 0), (45, 1, .aload_n 0, 0, 0, 0, [], 0), (46, 3, .getfield 13, 3, 0, 0, [], 0), (49, 1, .iconst 0, 0, 0, 0, [], 0), (50, 3, .sipush 432, 0, 0, 0, [], 0), (53, 3, .invokestatic 44, 0, 7, 5, [], 0), (56, 1, .aload_n 0, 0, 0, 0, [], 0), (57, 1, .aload_n 0, 0, 0, 0, [], 0), (58, 3, .getfield 20, 3, 2, 0, [], 0), (61, 1, .aload_n 0, 0, 0, 0, [], 0), (62, 3, .getfield 27, 3, 4, 0, [], 0), (65, 1, .iaload, 0, 0, 0, [], 0), (66, 3, .putfield 23, 3, 3, 0, [], 0), (69, 1, .aload_n 0, 0, 0, 0, [], 0), (70, 1, .iconst 0, 0, 0, 0, [], 0), (71, 3, .putfield 30, 3, 5, 0, [], 0), (74, 1, .iconst 1, 0, 0, 0, [], 0), (75, 1, .ireturn, 1, 0, 0, [], 0)]
def mt_18 : ix_M := (⟨"CryGorge$History", "loadImage", "(LCryGorge$State;)Z"⟩, prog_5_method_7_code, 3, (Option.some FieldType.boolean), 2, 3, mo_18, [])
def mo_19 : List ix_Op := [(0, 1, .aload_n 0, 0, 0, 0, [], 0), (1, 1, .iconst 0, 0, 0, 0, [], 0), (2, 3, .putfield 39, 4, 6, 0, [], 0), (5, 1, .aload_n 0, 0, 0, 0, [], 0), (6, 1, .iconst 0, 0, 0, 0, [], 0), (7, 3, .putfield 42, 4, 7, 0, [], 0), (10, 1, .aload_n 0, 0, 0, 0, [], 0), (11, 2, .bipush 21, 0, 0, 0, [], 0), (13, 3, .putfield 32, 4, 8, 0, [], 0), (16, 1, .aload_n 0, 0, 0, 0, [], 0), (17, 1, .iconst 3, 0, 0, 0, [], 0), (18, 3, .putfield 36, 4, 9, 0, [], 0), (21, 1, .iconst 0, 0, 0, 0, [], 0), (22, 1, .istore_n 2, 0, 0, 0, [], 0), (23, 1, .iload_n 2, 0, 0, 0, [], 0), (24, 2, .bipush 6, 0, 0, 0, [], 0), (26, 3, .if_icmp .ge 32, 33, 0, 0, [], 0), (29, 1, .iconst 0, 0, 0, 0, [], 0), (30, 1, .istore_n 3, 0, 0, 0, [], 0), (31, 1, .iload_n 3, 0, 0, 0, [], 0), (32, 2, .bipush 6, 0, 0, 0, [], 0), (34, 3, .if_icmp .ge 18, 31, 0, 0, [], 0), (37, 1, .aload_n 0, 0, 0, 0, [], 0), (38, 3, .getfield 26, 4, 4, 0, [], 0), (41, 1, .iload_n 2, 0, 0, 0, [], 0), (42, 1, .aaload, 0, 0, 0, [], 0), (43, 1, .iload_n 3, 0, 0, 0, [], 0), (44, 1, .iconst 0, 0, 0, 0, [], 0), (45, 1, .iastore, 0, 0, 0, [], 0), (46, 3, .iinc 3 1, 0, 0, 0, [], 0), (49, 3, .goto (-18), 19, 0, 0, [], 0), (52, 3, .iinc 2 1, 0, 0, 0, [], 0), (55, 3, .goto (-32), 14, 0, 0, [], 0), (58, 1, .iconst 0, 0, 0, 0, [], 0), (59, 1, .istore_n 2, 0, 0, 0, [], 0), (60, 1, .iload_n 2, 0, 0, 0, [], 0), (61, 2, .bipush 60, 0, 0, 0, [], 0), (63, 3, .if_icmp .gt 38, 55, 0, 0, [], 0), (66, 1, .aload_n 1, 0, 0, 0, [], 0), (67, 3, .invokevirtual 45, 61, 0, 1, [7], 0), (70, 3, .ifCond .eq 31, 55, 0, 0, [], 0), (73, 1, .aload_n 0, 0, 0, 0, [], 0), (74, 1, .aload_n 1, 0, 0, 0, [], 0), (75, 1, .iload_n 2, 0, 0, 0, [], 0), (76, 2, .bipush 60, 0, 0, 0, [], 0), (78, 3, .if_icmp .ne 7, 48, 0, 0, [], 0), (81, 1, .iconst 1, 0, 0, 0, [], 0), (82, 3, .goto 4, 49, 0, 0, [], 0), (85, 1, .iconst 0, 0, 0, 0, [], 0), (86, 3, .invokevirtual 51, 20, 0, 3, [4], 0), (89, 1, .aload_n 1, 0, 0, 0, [], 0), (90, 2, .bipush 59, 0, 0, 0, [], 0), (92, 3, .invokevirtual 55, 63, 0, 2, [7], 0), (95, 3, .iinc 2 1, 0, 0, 0, [], 0), (98, 3, .goto (-38), 35, 0, 0, [], 0), (101, 1, .aload_n 0, 0, 0, 0, [], 0), (102, 3, .invokevirtual 59, 28, 0, 1, [4], 0), (105, 1, .return_, 0, 0, 0, [], 0)]
def mt_19 : ix_M := (⟨"CryGorge$Land", "read", "(LCryGorge$Reader;)V"⟩, prog_6_method_2_code, 4, (Option.none : Option FieldType), 2, 4, mo_19, [])
def mo_20 : List ix_Op := [(0, 1, .aload_n 1, 0, 0, 0, [], 0), (1, 3, .invokevirtual 62, 65, 0, 1, [7], 0), (4, 1, .aload_n 1, 0, 0, 0, [], 0), (5, 2, .ldc 65, 2004, 0, 1, [], 0), (7, 3, .invokevirtual 67, 66, 0, 2, [7], 0), (10, 3, .ifCond .eq 12, 11, 0, 0, [], 0), (13, 1, .aload_n 0, 0, 0, 0, [], 0), (14, 1, .aload_n 1, 0, 0, 0, [], 0), (15, 1, .iload_n 2, 0, 0, 0, [], 0), (16, 3, .invokevirtual 71, 22, 0, 3, [4], 0), (19, 3, .goto 116, 68, 0, 0, [], 0), (22, 1, .aload_n 1, 0, 0, 0, [], 0), (23, 2, .ldc 74, 2005, 0, 1, [], 0), (25, 3, .invokevirtual 67, 66, 0, 2, [7], 0), (28, 3, .ifCond .eq 12, 20, 0, 0, [], 0), (31, 1, .aload_n 0, 0, 0, 0, [], 0), (32, 1, .aload_n 1, 0, 0, 0, [], 0), (33, 1, .iload_n 2, 0, 0, 0, [], 0), (34, 3, .invokevirtual 76, 23, 0, 3, [4], 0), (37, 3, .goto 98, 68, 0, 0, [], 0), (40, 1, .aload_n 1, 0, 0, 0, [], 0), (41, 2, .ldc 79, 2016, 0, 1, [], 0), (43, 3, .invokevirtual 67, 66, 0, 2, [7], 0), (46, 3, .ifCond .eq 12, 29, 0, 0, [], 0), (49, 1, .aload_n 0, 0, 0, 0, [], 0), (50, 1, .aload_n 1, 0, 0, 0, [], 0), (51, 1, .iload_n 2, 0, 0, 0, [], 0), (52, 3, .invokevirtual 80, 24, 0, 3, [4], 0), (55, 3, .goto 80, 68, 0, 0, [], 0), (58, 1, .aload_n 1, 0, 0, 0, [], 0), (59, 2, .ldc 83, 2019, 0, 1, [], 0), (61, 3, .invokevirtual 67, 66, 0, 2, [7], 0), (64, 3, .ifCond .eq 30, 47, 0, 0, [], 0), (67, 1, .aload_n 1, 0, 0, 0, [], 0), (68, 1, .iload_n 2, 0, 0, 0, [], 0), (69, 3, .ifCond .ne 7, 38, 0, 0, [], 0), (72, 1, .iconst 1, 0, 0, 0, [], 0), (73, 3, .goto 4, 39, 0, 0, [], 0), (76, 1, .iconst 0, 0, 0, 0, [], 0), (77, 3, .invokestatic 84, 21, 1, 2, [], 0), (80, 1, .aload_n 0, 0, 0, 0, [], 0), (81, 1, .aload_n 1, 0, 0, 0, [], 0), (82, 1, .iconst 1, 0, 0, 0, [], 0), (83, 2, .bipush 40, 0, 0, 0, [], 0), (85, 3, .invokevirtual 87, 64, 0, 3, [7], 0), (88, 3, .putfield 32, 4, 8, 0, [], 0), (91, 3, .goto 44, 68, 0, 0, [], 0), (94, 1, .aload_n 1, 0, 0, 0, [], 0), (95, 2, .ldc 91, 2007, 0, 1, [], 0), (97, 3, .invokevirtual 67, 66, 0, 2, [7], 0), (100, 3, .ifCond .eq 30, 65, 0, 0, [], 0), (103, 1, .aload_n 1, 0, 0, 0, [], 0), (104, 1, .iload_n 2, 0, 0, 0, [], 0), (105, 3, .ifCond .ne 7, 56, 0, 0, [], 0), (108, 1, .iconst 1, 0, 0, 0, [], 0), (109, 3, .goto 4, 57, 0, 0, [], 0), (112, 1, .iconst 0, 0, 0, 0, [], 0), (113, 3, .invokestatic 84, 21, 1, 2, [], 0), (116, 1, .aload_n 0, 0, 0, 0, [], 0), (117, 1, .aload_n 1, 0, 0, 0, [], 0), (118, 1, .iconst 0, 0, 0, 0, [], 0), (119, 2, .bipush 9, 0, 0, 0, [], 0), (121, 3, .invokevirtual 87, 64, 0, 3, [7], 0), (124, 3, .putfield 36, 4, 9, 0, [], 0), (127, 3, .goto 8, 68, 0, 0, [], 0), (130, 1, .aload_n 1, 0, 0, 0, [], 0), (131, 1, .iconst 1, 0, 0, 0, [], 0), (132, 3, .invokevirtual 92, 59, 0, 2, [7], 0), (135, 1, .return_, 0, 0, 0, [], 0)]
def mt_20 : ix_M := (⟨"CryGorge$Land", "readClause", "(LCryGorge$Reader;Z)V"⟩, prog_6_method_3_code, 3, (Option.none : Option FieldType), 3, 4, mo_20, [])
def mo_21 : List ix_Op := [(0, 1, .iload_n 1, 0, 0, 0, [], 0), (1, 3, .ifCond .ne 8, 5, 0, 0, [], 0), (4, 1, .aload_n 0, 0, 0, 0, [], 0), (5, 1, .iconst 3, 0, 0, 0, [], 0), (6, 3, .invokevirtual 92, 59, 0, 2, [7], 0), (9, 1, .return_, 0, 0, 0, [], 0)]
def mt_21 : ix_M := (⟨"CryGorge$Land", "allow", "(LCryGorge$Reader;Z)V"⟩, prog_6_method_4_code, 2, (Option.none : Option FieldType), 2, 4, mo_21, [])
def mo_22 : List ix_Op := [(0, 1, .aload_n 1, 0, 0, 0, [], 0), (1, 1, .iload_n 2, 0, 0, 0, [], 0), (2, 3, .ifCond .ne 16, 9, 0, 0, [], 0), (5, 1, .aload_n 0, 0, 0, 0, [], 0), (6, 3, .getfield 39, 4, 6, 0, [], 0), (9, 2, .bipush 6, 0, 0, 0, [], 0), (11, 3, .if_icmp .ge 7, 9, 0, 0, [], 0), (14, 1, .iconst 1, 0, 0, 0, [], 0), (15, 3, .goto 4, 10, 0, 0, [], 0), (18, 1, .iconst 0, 0, 0, 0, [], 0), (19, 3, .invokestatic 84, 21, 1, 2, [], 0), (22, 1, .aload_n 1, 0, 0, 0, [], 0), (23, 1, .iconst 0, 0, 0, 0, [], 0), (24, 2, .bipush 20, 0, 0, 0, [], 0), (26, 3, .invokevirtual 87, 64, 0, 3, [7], 0), (29, 1, .istore_n 3, 0, 0, 0, [], 0), (30, 1, .aload_n 1, 0, 0, 0, [], 0), (31, 1, .iconst 1, 0, 0, 0, [], 0), (32, 1, .iconst 4, 0, 0, 0, [], 0), (33, 3, .invokevirtual 87, 64, 0, 3, [7], 0), (36, 2, .istore 4, 0, 0, 0, [], 0), (38, 1, .aload_n 1, 0, 0, 0, [], 0), (39, 3, .invokevirtual 96, 56, 0, 1, [7], 0), (42, 3, .ifCond .ne 43, 46, 0, 0, [], 0), (45, 1, .aload_n 0, 0, 0, 0, [], 0), (46, 3, .getfield 39, 4, 6, 0, [], 0), (49, 2, .bipush 6, 0, 0, 0, [], 0), (51, 3, .if_icmp .ge 34, 46, 0, 0, [], 0), (54, 1, .aload_n 0, 0, 0, 0, [], 0), (55, 3, .getfield 9, 4, 0, 0, [], 0), (58, 1, .aload_n 0, 0, 0, 0, [], 0), (59, 3, .getfield 39, 4, 6, 0, [], 0), (62, 1, .iload_n 3, 0, 0, 0, [], 0), (63, 1, .iastore, 0, 0, 0, [], 0), (64, 1, .aload_n 0, 0, 0, 0, [], 0), (65, 3, .getfield 15, 4, 1, 0, [], 0), (68, 1, .aload_n 0, 0, 0, 0, [], 0), (69, 3, .getfield 39, 4, 6, 0, [], 0), (72, 2, .iload 4, 0, 0, 0, [], 0), (74, 1, .iastore, 0, 0, 0, [], 0), (75, 1, .aload_n 0, 0, 0, 0, [], 0), (76, 1, .dup, 0, 0, 0, [], 0), (77, 3, .getfield 39, 4, 6, 0, [], 0), (80, 1, .iconst 1, 0, 0, 0, [], 0), (81, 1, .iadd, 0, 0, 0, [], 0), (82, 3, .putfield 39, 4, 6, 0, [], 0), (85, 1, .return_, 0, 0, 0, [], 0)]
def mt_22 : ix_M := (⟨"CryGorge$Land", "readBay", "(LCryGorge$Reader;Z)V"⟩, prog_6_method_5_code, 5, (Option.none : Option FieldType), 3, 4, mo_22, [])
def mo_23 : List ix_Op := [(0, 1, .aload_n 1, 0, 0, 0, [], 0), (1, 1, .iload_n 2, 0, 0, 0, [], 0), (2, 3, .ifCond .ne 16, 9, 0, 0, [], 0), (5, 1, .aload_n 0, 0, 0, 0, [], 0), (6, 3, .getfield 42, 4, 7, 0, [], 0), (9, 2, .bipush 8, 0, 0, 0, [], 0), (11, 3, .if_icmp .ge 7, 9, 0, 0, [], 0), (14, 1, .iconst 1, 0, 0, 0, [], 0), (15, 3, .goto 4, 10, 0, 0, [], 0), (18, 1, .iconst 0, 0, 0, 0, [], 0), (19, 3, .invokestatic 84, 21, 1, 2, [], 0), (22, 1, .aload_n 1, 0, 0, 0, [], 0), (23, 1, .iconst 0, 0, 0, 0, [], 0), (24, 2, .bipush 60, 0, 0, 0, [], 0), (26, 3, .invokevirtual 87, 64, 0, 3, [7], 0), (29, 1, .istore_n 3, 0, 0, 0, [], 0), (30, 1, .aload_n 1, 0, 0, 0, [], 0), (31, 1, .iconst 1, 0, 0, 0, [], 0), (32, 2, .bipush 99, 0, 0, 0, [], 0), (34, 3, .invokevirtual 87, 64, 0, 3, [7], 0), (37, 2, .istore 4, 0, 0, 0, [], 0), (39, 1, .aload_n 1, 0, 0, 0, [], 0), (40, 3, .invokevirtual 96, 56, 0, 1, [7], 0), (43, 3, .ifCond .ne 43, 46, 0, 0, [], 0), (46, 1, .aload_n 0, 0, 0, 0, [], 0), (47, 3, .getfield 42, 4, 7, 0, [], 0), (50, 2, .bipush 8, 0, 0, 0, [], 0), (52, 3, .if_icmp .ge 34, 46, 0, 0, [], 0), (55, 1, .aload_n 0, 0, 0, 0, [], 0), (56, 3, .getfield 18, 4, 2, 0, [], 0), (59, 1, .aload_n 0, 0, 0, 0, [], 0), (60, 3, .getfield 42, 4, 7, 0, [], 0), (63, 1, .iload_n 3, 0, 0, 0, [], 0), (64, 1, .iastore, 0, 0, 0, [], 0), (65, 1, .aload_n 0, 0, 0, 0, [], 0), (66, 3, .getfield 21, 4, 3, 0, [], 0), (69, 1, .aload_n 0, 0, 0, 0, [], 0), (70, 3, .getfield 42, 4, 7, 0, [], 0), (73, 2, .iload 4, 0, 0, 0, [], 0), (75, 1, .iastore, 0, 0, 0, [], 0), (76, 1, .aload_n 0, 0, 0, 0, [], 0), (77, 1, .dup, 0, 0, 0, [], 0), (78, 3, .getfield 42, 4, 7, 0, [], 0), (81, 1, .iconst 1, 0, 0, 0, [], 0), (82, 1, .iadd, 0, 0, 0, [], 0), (83, 3, .putfield 42, 4, 7, 0, [], 0), (86, 1, .return_, 0, 0, 0, [], 0)]
def mt_23 : ix_M := (⟨"CryGorge$Land", "readCry", "(LCryGorge$Reader;Z)V"⟩, prog_6_method_6_code, 5, (Option.none : Option FieldType), 3, 4, mo_23, [])
def mo_24 : List ix_Op := [(0, 1, .aload_n 1, 0, 0, 0, [], 0), (1, 1, .iload_n 2, 0, 0, 0, [], 0), (2, 3, .ifCond .ne 7, 5, 0, 0, [], 0), (5, 1, .iconst 1, 0, 0, 0, [], 0), (6, 3, .goto 4, 6, 0, 0, [], 0), (9, 1, .iconst 0, 0, 0, 0, [], 0), (10, 3, .invokestatic 84, 21, 1, 2, [], 0), (13, 1, .aload_n 1, 0, 0, 0, [], 0), (14, 1, .iconst 0, 0, 0, 0, [], 0), (15, 1, .aload_n 0, 0, 0, 0, [], 0), (16, 3, .getfield 39, 4, 6, 0, [], 0), (19, 1, .iconst 1, 0, 0, 0, [], 0), (20, 1, .isub, 0, 0, 0, [], 0), (21, 3, .invokevirtual 87, 64, 0, 3, [7], 0), (24, 1, .istore_n 3, 0, 0, 0, [], 0), (25, 1, .aload_n 1, 0, 0, 0, [], 0), (26, 1, .iconst 0, 0, 0, 0, [], 0), (27, 1, .aload_n 0, 0, 0, 0, [], 0), (28, 3, .getfield 39, 4, 6, 0, [], 0), (31, 1, .iconst 1, 0, 0, 0, [], 0), (32, 1, .isub, 0, 0, 0, [], 0), (33, 3, .invokevirtual 87, 64, 0, 3, [7], 0), (36, 2, .istore 4, 0, 0, 0, [], 0), (38, 1, .iload_n 3, 0, 0, 0, [], 0), (39, 2, .iload 4, 0, 0, 0, [], 0), (41, 3, .if_icmp .ne 8, 29, 0, 0, [], 0), (44, 1, .aload_n 1, 0, 0, 0, [], 0), (45, 1, .iconst 2, 0, 0, 0, [], 0), (46, 3, .invokevirtual 92, 59, 0, 2, [7], 0), (49, 1, .aload_n 1, 0, 0, 0, [], 0), (50, 1, .iconst 1, 0, 0, 0, [], 0), (51, 2, .bipush 40, 0, 0, 0, [], 0), (53, 3, .invokevirtual 87, 64, 0, 3, [7], 0), (56, 2, .istore 5, 0, 0, 0, [], 0), (58, 1, .aload_n 1, 0, 0, 0, [], 0), (59, 3, .invokevirtual 96, 56, 0, 1, [7], 0), (62, 3, .ifCond .ne 42, 59, 0, 0, [], 0), (65, 1, .aload_n 0, 0, 0, 0, [], 0), (66, 1, .iload_n 3, 0, 0, 0, [], 0), (67, 3, .invokevirtual 99, 25, 0, 2, [4], 0), (70, 3, .ifCond .eq 34, 59, 0, 0, [], 0), (73, 1, .aload_n 0, 0, 0, 0, [], 0), (74, 2, .iload 4, 0, 0, 0, [], 0), (76, 3, .invokevirtual 99, 25, 0, 2, [4], 0), (79, 3, .ifCond .eq 25, 59, 0, 0, [], 0), (82, 1, .aload_n 0, 0, 0, 0, [], 0), (83, 3, .getfield 26, 4, 4, 0, [], 0), (86, 1, .iload_n 3, 0, 0, 0, [], 0), (87, 1, .aaload, 0, 0, 0, [], 0), (88, 2, .iload 4, 0, 0, 0, [], 0), (90, 2, .iload 5, 0, 0, 0, [], 0), (92, 1, .iastore, 0, 0, 0, [], 0), (93, 1, .aload_n 0, 0, 0, 0, [], 0), (94, 3, .getfield 26, 4, 4, 0, [], 0), (97, 2, .iload 4, 0, 0, 0, [], 0), (99, 1, .aaload, 0, 0, 0, [], 0), (100, 1, .iload_n 3, 0, 0, 0, [], 0), (101, 2, .iload 5, 0, 0, 0, [], 0), (103, 1, .iastore, 0, 0, 0, [], 0), (104, 1, .return_, 0, 0, 0, [], 0)]
def mt_24 : ix_M := (⟨"CryGorge$Land", "readPath", "(LCryGorge$Reader;Z)V"⟩, prog_6_method_7_code, 6, (Option.none : Option FieldType), 3, 4, mo_24, [])
def mo_25 : List ix_Op := [(0, 1, .iload_n 1, 0, 0, 0, [], 0), (1, 3, .ifCond .lt 15, 8, 0, 0, [], 0), (4, 1, .iload_n 1, 0, 0, 0, [], 0), (5, 1, .aload_n 0, 0, 0, 0, [], 0), (6, 3, .getfield 39, 4, 6, 0, [], 0), (9, 3, .if_icmp .ge 7, 8, 0, 0, [], 0), (12, 1, .iconst 1, 0, 0, 0, [], 0), (13, 3, .goto 4, 9, 0, 0, [], 0), (16, 1, .iconst 0, 0, 0, 0, [], 0), (17, 1, .ireturn, 1, 0, 0, [], 0)]
def mt_25 : ix_M := (⟨"CryGorge$Land", "hasBay", "(I)Z"⟩, prog_6_method_8_code, 2, (Option.some FieldType.boolean), 2, 4, mo_25, [])
def mo_26 : List ix_Op := [(0, 1, .iload_n 1, 0, 0, 0, [], 0), (1, 3, .ifCond .lt 15, 8, 0, 0, [], 0), (4, 1, .iload_n 1, 0, 0, 0, [], 0), (5, 1, .aload_n 0, 0, 0, 0, [], 0), (6, 3, .getfield 42, 4, 7, 0, [], 0), (9, 3, .if_icmp .ge 7, 8, 0, 0, [], 0), (12, 1, .iconst 1, 0, 0, 0, [], 0), (13, 3, .goto 4, 9, 0, 0, [], 0), (16, 1, .iconst 0, 0, 0, 0, [], 0), (17, 1, .ireturn, 1, 0, 0, [], 0)]
def mt_26 : ix_M := (⟨"CryGorge$Land", "hasCry", "(I)Z"⟩, prog_6_method_9_code, 2, (Option.some FieldType.boolean), 2, 4, mo_26, [])
def mo_27 : List ix_Op := [(0, 1, .aload_n 0, 0, 0, 0, [], 0), (1, 1, .aload_n 1, 0, 0, 0, [], 0), (2, 3, .getfield 39, 4, 6, 0, [], 0), (5, 3, .putfield 39, 4, 6, 0, [], 0), (8, 1, .aload_n 0, 0, 0, 0, [], 0), (9, 1, .aload_n 1, 0, 0, 0, [], 0), (10, 3, .getfield 42, 4, 7, 0, [], 0), (13, 3, .putfield 42, 4, 7, 0, [], 0), (16, 1, .aload_n 0, 0, 0, 0, [], 0), (17, 1, .aload_n 1, 0, 0, 0, [], 0), (18, 3, .getfield 32, 4, 8, 0, [], 0), (21, 3, .putfield 32, 4, 8, 0, [], 0), (24, 1, .aload_n 0, 0, 0, 0, [], 0), (25, 1, .aload_n 1, 0, 0, 0, [], 0), (26, 3, .getfield 36, 4, 9, 0, [], 0), (29, 3, .putfield 36, 4, 9, 0, [], 0), (32, 1, .aload_n 1, 0, 0, 0, [], 0), (33, 3, .getfield 9, 4, 0, 0, [], 0), (36, 1, .iconst 0, 0, 0, 0, [], 0), (37, 1, .aload_n 0, 0, 0, 0, [], 0), (38, 3, .getfield 9, 4, 0, 0, [], 0), (41, 1, .iconst 0, 0, 0, 0, [], 0), (42, 2, .bipush 6, 0, 0, 0, [], 0), (44, 3, .invokestatic 103, 0, 7, 5, [], 0), (47, 1, .aload_n 1, 0, 0, 0, [], 0), (48, 3, .getfield 15, 4, 1, 0, [], 0), (51, 1, .iconst 0, 0, 0, 0, [], 0), (52, 1, .aload_n 0, 0, 0, 0, [], 0), (53, 3, .getfield 15, 4, 1, 0, [], 0), (56, 1, .iconst 0, 0, 0, 0, [], 0), (57, 2, .bipush 6, 0, 0, 0, [], 0), (59, 3, .invokestatic 103, 0, 7, 5, [], 0), (62, 1, .aload_n 1, 0, 0, 0, [], 0), (63, 3, .getfield 18, 4, 2, 0, [], 0), (66, 1, .iconst 0, 0, 0, 0, [], 0), (67, 1, .aload_n 0, 0, 0, 0, [], 0), (68, 3, .getfield 18, 4, 2, 0, [], 0), (71, 1, .iconst 0, 0, 0, 0, [], 0), (72, 2, .bipush 8, 0, 0, 0, [], 0), (74, 3, .invokestatic 103, 0, 7, 5, [], 0), (77, 1, .aload_n 1, 0, 0, 0, [], 0), (78, 3, .getfield 21, 4, 3, 0, [], 0), (81, 1, .iconst 0, 0, 0, 0, [], 0), (82, 1, .aload_n 0, 0, 0, 0, [], 0), (83, 3, .getfield 21, 4, 3, 0, [], 0), (86, 1, .iconst 0, 0, 0, 0, [], 0), (87, 2, .bipush 8, 0, 0, 0, [], 0), (89, 3, .invokestatic 103, 0, 7, 5, [], 0), (92, 1, .iconst 0, 0, 0, 0, [], 0), (93, 1, .istore_n 2, 0, 0, 0, [], 0), (94, 1, .iload_n 2, 0, 0, 0, [], 0), (95, 2, .bipush 6, 0, 0, 0, [], 0), (97, 3, .if_icmp .ge 47, 79, 0, 0, [], 0), (100, 1, .aload_n 1, 0, 0, 0, [], 0), (101, 3, .getfield 26, 4, 4, 0, [], 0), (104, 1, .iload_n 2, 0, 0, 0, [], 0), (105, 1, .aaload, 0, 0, 0, [], 0), (106, 1, .iconst 0, 0, 0, 0, [], 0), (107, 1, .aload_n 0, 0, 0, 0, [], 0), (108, 3, .getfield 26, 4, 4, 0, [], 0), (111, 1, .iload_n 2, 0, 0, 0, [], 0), (112, 1, .aaload, 0, 0, 0, [], 0), (113, 1, .iconst 0, 0, 0, 0, [], 0), (114, 2, .bipush 6, 0, 0, 0, [], 0), (116, 3, .invokestatic 103, 0, 7, 5, [], 0), (119, 1, .aload_n 1, 0, 0, 0, [], 0), (120, 3, .getfield 29, 4, 5, 0, [], 0), (123, 1, .iload_n 2, 0, 0, 0, [], 0), (124, 1, .aaload, 0, 0, 0, [], 0), (125, 1, .iconst 0, 0, 0, 0, [], 0), (126, 1, .aload_n 0, 0, 0, 0, [], 0), (127, 3, .getfield 29, 4, 5, 0, [], 0), (130, 1, .iload_n 2, 0, 0, 0, [], 0), (131, 1, .aaload, 0, 0, 0, [], 0), (132, 1, .iconst 0, 0, 0, 0, [], 0), (133, 2, .bipush 6, 0, 0, 0, [], 0), (135, 3, .invokestatic 103, 0, 7, 5, [], 0), (138, 3, .iinc 2 1, 0, 0, 0, [], 0), (141, 3, .goto (-47), 50, 0, 0, [], 0), (144, 1, .return_, 0, 0, 0, [], 0)]
def mt_27 : ix_M := (⟨"CryGorge$Land", "copyFrom", "(LCryGorge$Land;)V"⟩, prog_6_method_10_code, 3, (Option.none : Option FieldType), 2, 4, mo_27, [])
def mo_28 : List ix_Op := [(0, 1, .iconst 0, 0, 0, 0, [], 0), (1, 1, .istore_n 1, 0, 0, 0, [], 0), (2, 1, .iload_n 1, 0, 0, 0, [], 0), (3, 2, .bipush 6, 0, 0, 0, [], 0), (5, 3, .if_icmp .ge 65, 42, 0, 0, [], 0), (8, 1, .iconst 0, 0, 0, 0, [], 0), (9, 1, .istore_n 2, 0, 0, 0, [], 0), (10, 1, .iload_n 2, 0, 0, 0, [], 0), (11, 2, .bipush 6, 0, 0, 0, [], 0), (13, 3, .if_icmp .ge 51, 40, 0, 0, [], 0), (16, 1, .aload_n 0, 0, 0, 0, [], 0), (17, 3, .getfield 26, 4, 4, 0, [], 0), (20, 1, .iload_n 1, 0, 0, 0, [], 0), (21, 1, .aaload, 0, 0, 0, [], 0), (22, 1, .iload_n 2, 0, 0, 0, [], 0), (23, 1, .iaload, 0, 0, 0, [], 0), (24, 3, .ifCond .le 14, 24, 0, 0, [], 0), (27, 1, .aload_n 0, 0, 0, 0, [], 0), (28, 3, .getfield 26, 4, 4, 0, [], 0), (31, 1, .iload_n 1, 0, 0, 0, [], 0), (32, 1, .aaload, 0, 0, 0, [], 0), (33, 1, .iload_n 2, 0, 0, 0, [], 0), (34, 1, .iaload, 0, 0, 0, [], 0), (35, 3, .goto 4, 25, 0, 0, [], 0), (38, 1, .iconst (-1), 0, 0, 0, [], 0), (39, 1, .istore_n 3, 0, 0, 0, [], 0), (40, 1, .aload_n 0, 0, 0, 0, [], 0), (41, 3, .getfield 29, 4, 5, 0, [], 0), (44, 1, .iload_n 1, 0, 0, 0, [], 0), (45, 1, .aaload, 0, 0, 0, [], 0), (46, 1, .iload_n 2, 0, 0, 0, [], 0), (47, 1, .iload_n 1, 0, 0, 0, [], 0), (48, 1, .iload_n 2, 0, 0, 0, [], 0), (49, 3, .if_icmp .ne 7, 36, 0, 0, [], 0), (52, 1, .iconst 0, 0, 0, 0, [], 0), (53, 3, .goto 4, 37, 0, 0, [], 0), (56, 1, .iload_n 3, 0, 0, 0, [], 0), (57, 1, .iastore, 0, 0, 0, [], 0), (58, 3, .iinc 2 1, 0, 0, 0, [], 0), (61, 3, .goto (-51), 7, 0, 0, [], 0), (64, 3, .iinc 1 1, 0, 0, 0, [], 0), (67, 3, .goto (-65), 2, 0, 0, [], 0), (70, 1, .iconst 0, 0, 0, 0, [], 0), (71, 1, .istore_n 1, 0, 0, 0, [], 0), (72, 1, .iload_n 1, 0, 0, 0, [], 0), (73, 2, .bipush 6, 0, 0, 0, [], 0), (75, 3, .if_icmp .ge 79, 91, 0, 0, [], 0), (78, 1, .iconst 0, 0, 0, 0, [], 0), (79, 1, .istore_n 2, 0, 0, 0, [], 0), (80, 1, .iload_n 2, 0, 0, 0, [], 0), (81, 2, .bipush 6, 0, 0, 0, [], 0), (83, 3, .if_icmp .ge 65, 89, 0, 0, [], 0), (86, 1, .iconst 0, 0, 0, 0, [], 0), (87, 1, .istore_n 3, 0, 0, 0, [], 0), (88, 1, .iload_n 3, 0, 0, 0, [], 0), (89, 2, .bipush 6, 0, 0, 0, [], 0), (91, 3, .if_icmp .ge 51, 87, 0, 0, [], 0), (94, 1, .aload_n 0, 0, 0, 0, [], 0), (95, 3, .getfield 29, 4, 5, 0, [], 0), (98, 1, .iload_n 2, 0, 0, 0, [], 0), (99, 1, .aaload, 0, 0, 0, [], 0), (100, 1, .iload_n 1, 0, 0, 0, [], 0), (101, 1, .iaload, 0, 0, 0, [], 0), (102, 1, .aload_n 0, 0, 0, 0, [], 0), (103, 3, .getfield 29, 4, 5, 0, [], 0), (106, 1, .iload_n 1, 0, 0, 0, [], 0), (107, 1, .aaload, 0, 0, 0, [], 0), (108, 1, .iload_n 3, 0, 0, 0, [], 0), (109, 1, .iaload, 0, 0, 0, [], 0), (110, 3, .invokestatic 109, 29, 1, 2, [], 0), (113, 2, .istore 4, 0, 0, 0, [], 0), (115, 1, .aload_n 0, 0, 0, 0, [], 0), (116, 3, .getfield 29, 4, 5, 0, [], 0), (119, 1, .iload_n 2, 0, 0, 0, [], 0), (120, 1, .aaload, 0, 0, 0, [], 0), (121, 1, .iload_n 3, 0, 0, 0, [], 0), (122, 1, .aload_n 0, 0, 0, 0, [], 0), (123, 3, .getfield 29, 4, 5, 0, [], 0), (126, 1, .iload_n 2, 0, 0, 0, [], 0), (127, 1, .aaload, 0, 0, 0, [], 0), (128, 1, .iload_n 3, 0, 0, 0, [], 0), (129, 1, .iaload, 0, 0, 0, [], 0), (130, 2, .iload 4, 0, 0, 0, [], 0), (132, 3, .invokestatic 112, 30, 1, 2, [], 0), (135, 1, .iastore, 0, 0, 0, [], 0), (136, 3, .iinc 3 1, 0, 0, 0, [], 0), (139, 3, .goto (-51), 54, 0, 0, [], 0), (142, 3, .iinc 2 1, 0, 0, 0, [], 0), (145, 3, .goto (-65), 49, 0, 0, [], 0), (148, 3, .iinc 1 1, 0, 0, 0, [], 0), (151, 3, .goto (-79), 44, 0, 0, [], 0), (154, 1, .return_, 0, 0, 0, [], 0)]
def mt_28 : ix_M := (⟨"CryGorge$Land", "measure", "()V"⟩, prog_6_method_11_code, 5, (Option.none : Option FieldType), 1, 4, mo_28, [])
def mo_29 : List ix_Op := [(0, 1, .iload_n 0, 0, 0, 0, [], 0), (1, 1, .iconst (-1), 0, 0, 0, [], 0), (2, 3, .if_icmp .eq 8, 6, 0, 0, [], 0), (5, 1, .iload_n 1, 0, 0, 0, [], 0), (6, 1, .iconst (-1), 0, 0, 0, [], 0), (7, 3, .if_icmp .ne 7, 8, 0, 0, [], 0), (10, 1, .iconst (-1), 0, 0, 0, [], 0), (11, 3, .goto 6, 11, 0, 0, [], 0), (14, 1, .iload_n 0, 0, 0, 0, [], 0), (15, 1, .iload_n 1, 0, 0, 0, [], 0), (16, 1, .iadd, 0, 0, 0, [], 0), (17, 1, .ireturn, 0, 0, 0, [], 0)]
def mt_29 : ix_M := (⟨"CryGorge$Land", "added", "(II)I"⟩, prog_6_method_12_code, 2, (Option.some FieldType.int), 2, 4, mo_29, [])
def mo_30 : List ix_Op := [(0, 1, .iload_n 0, 0, 0, 0, [], 0), (1, 1, .iconst (-1), 0, 0, 0, [], 0), (2, 3, .if_icmp .eq 8, 6, 0, 0, [], 0), (5, 1, .iload_n 1, 0, 0, 0, [], 0), (6, 1, .iconst (-1), 0, 0, 0, [], 0), (7, 3, .if_icmp .ne 9, 10, 0, 0, [], 0), (10, 1, .iload_n 0, 0, 0, 0, [], 0), (11, 1, .iload_n 1, 0, 0, 0, [], 0), (12, 3, .invokestatic 115, 0, 4, 2, [], 0), (15, 1, .ireturn, 0, 0, 0, [], 0), (16, 1, .iload_n 0, 0, 0, 0, [], 0), (17, 1, .iload_n 1, 0, 0, 0, [], 0), (18, 3, .invokestatic 120, 0, 5, 2, [], 0), (21, 1, .ireturn, 0, 0, 0, [], 0)]
def mt_30 : ix_M := (⟨"CryGorge$Land", "lesser", "(II)I"⟩, prog_6_method_13_code, 2, (Option.some FieldType.int), 2, 4, mo_30, [])
def mo_31 : List ix_Op := [(0, 1, .iconst 0, 0, 0, 0, [], 0), (1, 1, .istore_n 2, 0, 0, 0, [], 0), (2, 1, .iconst 0, 0, 0, 0, [], 0), (3, 1, .istore_n 3, 0, 0, 0, [], 0), (4, 1, .iload_n 3, 0, 0, 0, [], 0), (5, 1, .aload_n 0, 0, 0, 0, [], 0), (6, 3, .getfield 39, 4, 6, 0, [], 0), (9, 3, .if_icmp .ge 26, 23, 0, 0, [], 0), (12, 1, .aload_n 0, 0, 0, 0, [], 0), (13, 3, .getfield 26, 4, 4, 0, [], 0), (16, 1, .iload_n 1, 0, 0, 0, [], 0), (17, 1, .aaload, 0, 0, 0, [], 0), (18, 1, .iload_n 3, 0, 0, 0, [], 0), (19, 1, .iaload, 0, 0, 0, [], 0), (20, 3, .ifCond .le 9, 21, 0, 0, [], 0), (23, 1, .iload_n 2, 0, 0, 0, [], 0), (24, 1, .iconst 1, 0, 0, 0, [], 0), (25, 1, .iload_n 3, 0, 0, 0, [], 0), (26, 1, .ishl, 0, 0, 0, [], 0), (27, 1, .ior, 0, 0, 0, [], 0), (28, 1, .istore_n 2, 0, 0, 0, [], 0), (29, 3, .iinc 3 1, 0, 0, 0, [], 0), (32, 3, .goto (-28), 4, 0, 0, [], 0), (35, 1, .iload_n 2, 0, 0, 0, [], 0), (36, 1, .ireturn, 0, 0, 0, [], 0)]
def mt_31 : ix_M := (⟨"CryGorge$Land", "neighbours", "(I)I"⟩, prog_6_method_14_code, 4, (Option.some FieldType.int), 2, 4, mo_31, [])
def mo_32 : List ix_Op := [(0, 1, .aload_n 0, 0, 0, 0, [], 0), (1, 3, .getfield 29, 4, 5, 0, [], 0), (4, 1, .iload_n 1, 0, 0, 0, [], 0), (5, 1, .aaload, 0, 0, 0, [], 0), (6, 1, .iload_n 2, 0, 0, 0, [], 0), (7, 1, .iaload, 0, 0, 0, [], 0), (8, 3, .ifCond .gt 5, 9, 0, 0, [], 0), (11, 1, .iconst (-1), 0, 0, 0, [], 0), (12, 1, .ireturn, 0, 0, 0, [], 0), (13, 1, .iconst 0, 0, 0, 0, [], 0), (14, 1, .istore_n 3, 0, 0, 0, [], 0), (15, 1, .iload_n 3, 0, 0, 0, [], 0), (16, 1, .aload_n 0, 0, 0, 0, [], 0), (17, 3, .getfield 39, 4, 6, 0, [], 0), (20, 3, .if_icmp .ge 62, 54, 0, 0, [], 0), (23, 1, .aload_n 0, 0, 0, 0, [], 0), (24, 3, .getfield 26, 4, 4, 0, [], 0), (27, 1, .iload_n 1, 0, 0, 0, [], 0), (28, 1, .aaload, 0, 0, 0, [], 0), (29, 1, .iload_n 3, 0, 0, 0, [], 0), (30, 1, .iaload, 0, 0, 0, [], 0), (31, 3, .ifCond .le 45, 52, 0, 0, [], 0), (34, 1, .aload_n 0, 0, 0, 0, [], 0), (35, 3, .getfield 29, 4, 5, 0, [], 0), (38, 1, .iload_n 3, 0, 0, 0, [], 0), (39, 1, .aaload, 0, 0, 0, [], 0), (40, 1, .iload_n 2, 0, 0, 0, [], 0), (41, 1, .iaload, 0, 0, 0, [], 0), (42, 1, .iconst (-1), 0, 0, 0, [], 0), (43, 3, .if_icmp .eq 33, 52, 0, 0, [], 0), (46, 1, .aload_n 0, 0, 0, 0, [], 0), (47, 3, .getfield 26, 4, 4, 0, [], 0), (50, 1, .iload_n 1, 0, 0, 0, [], 0), (51, 1, .aaload, 0, 0, 0, [], 0), (52, 1, .iload_n 3, 0, 0, 0, [], 0), (53, 1, .iaload, 0, 0, 0, [], 0), (54, 1, .aload_n 0, 0, 0, 0, [], 0), (55, 3, .getfield 29, 4, 5, 0, [], 0), (58, 1, .iload_n 3, 0, 0, 0, [], 0), (59, 1, .aaload, 0, 0, 0, [], 0), (60, 1, .iload_n 2, 0, 0, 0, [], 0), (61, 1, .iaload, 0, 0, 0, [], 0), (62, 1, .iadd, 0, 0, 0, [], 0), (63, 1, .aload_n 0, 0, 0, 0, [], 0), (64, 3, .getfield 29, 4, 5, 0, [], 0), (67, 1, .iload_n 1, 0, 0, 0, [], 0), (68, 1, .aaload, 0, 0, 0, [], 0), (69, 1, .iload_n 2, 0, 0, 0, [], 0), (70, 1, .iaload, 0, 0, 0, [], 0), (71, 3, .if_icmp .ne 5, 52, 0, 0, [], 0), (74, 1, .iload_n 3, 0, 0, 0, [], 0), (75, 1, .ireturn, 0, 0, 0, [], 0), (76, 3, .iinc 3 1, 0, 0, 0, [], 0), (79, 3, .goto (-64), 11, 0, 0, [], 0), (82, 1, .iconst (-1), 0, 0, 0, [], 0), (83, 1, .ireturn, 0, 0, 0, [], 0)]
def mt_32 : ix_M := (⟨"CryGorge$Land", "nextOnWay", "(II)I"⟩, prog_6_method_15_code, 4, (Option.some FieldType.int), 3, 4, mo_32, [])
def mo_33 : List ix_Op := [(0, 1, .iload_n 2, 0, 0, 0, [], 0), (1, 3, .ifCond .ne 5, 4, 0, 0, [], 0), (4, 1, .iconst 0, 0, 0, 0, [], 0), (5, 1, .ireturn, 0, 0, 0, [], 0), (6, 1, .iconst (-1), 0, 0, 0, [], 0), (7, 1, .istore_n 3, 0, 0, 0, [], 0), (8, 1, .iconst 0, 0, 0, 0, [], 0), (9, 2, .istore 4, 0, 0, 0, [], 0), (11, 2, .iload 4, 0, 0, 0, [], 0), (13, 1, .aload_n 0, 0, 0, 0, [], 0), (14, 3, .getfield 39, 4, 6, 0, [], 0), (17, 3, .if_icmp .ge 67, 51, 0, 0, [], 0), (20, 1, .iload_n 2, 0, 0, 0, [], 0), (21, 2, .iload 4, 0, 0, 0, [], 0), (23, 1, .ishr, 0, 0, 0, [], 0), (24, 1, .iconst 1, 0, 0, 0, [], 0), (25, 1, .iand, 0, 0, 0, [], 0), (26, 1, .iconst 1, 0, 0, 0, [], 0), (27, 3, .if_icmp .ne 51, 49, 0, 0, [], 0), (30, 1, .aload_n 0, 0, 0, 0, [], 0), (31, 3, .getfield 29, 4, 5, 0, [], 0), (34, 1, .iload_n 1, 0, 0, 0, [], 0), (35, 1, .aaload, 0, 0, 0, [], 0), (36, 2, .iload 4, 0, 0, 0, [], 0), (38, 1, .iaload, 0, 0, 0, [], 0), (39, 1, .iconst (-1), 0, 0, 0, [], 0), (40, 3, .if_icmp .eq 38, 49, 0, 0, [], 0), (43, 1, .aload_n 0, 0, 0, 0, [], 0), (44, 2, .iload 4, 0, 0, 0, [], 0), (46, 1, .iload_n 2, 0, 0, 0, [], 0), (47, 1, .iconst 1, 0, 0, 0, [], 0), (48, 2, .iload 4, 0, 0, 0, [], 0), (50, 1, .ishl, 0, 0, 0, [], 0), (51, 1, .iconst (-1), 0, 0, 0, [], 0), (52, 1, .ixor, 0, 0, 0, [], 0), (53, 1, .iand, 0, 0, 0, [], 0), (54, 3, .invokevirtual 123, 33, 0, 3, [4], 0), (57, 2, .istore 5, 0, 0, 0, [], 0), (59, 1, .iload_n 3, 0, 0, 0, [], 0), (60, 1, .aload_n 0, 0, 0, 0, [], 0), (61, 3, .getfield 29, 4, 5, 0, [], 0), (64, 1, .iload_n 1, 0, 0, 0, [], 0), (65, 1, .aaload, 0, 0, 0, [], 0), (66, 2, .iload 4, 0, 0, 0, [], 0), (68, 1, .iaload, 0, 0, 0, [], 0), (69, 2, .iload 5, 0, 0, 0, [], 0), (71, 3, .invokestatic 109, 29, 1, 2, [], 0), (74, 3, .invokestatic 112, 30, 1, 2, [], 0), (77, 1, .istore_n 3, 0, 0, 0, [], 0), (78, 3, .iinc 4 1, 0, 0, 0, [], 0), (81, 3, .goto (-70), 8, 0, 0, [], 0), (84, 1, .iload_n 3, 0, 0, 0, [], 0), (85, 1, .ireturn, 0, 0, 0, [], 0)]
def mt_33 : ix_M := (⟨"CryGorge$Land", "leastWalk", "(II)I"⟩, prog_6_method_16_code, 6, (Option.some FieldType.int), 3, 4, mo_33, [])
def mo_34 : List ix_Op := [(0, 1, .iconst 1, 0, 0, 0, [], 0), (1, 1, .aload_n 0, 0, 0, 0, [], 0), (2, 3, .getfield 39, 4, 6, 0, [], 0), (5, 1, .ishl, 0, 0, 0, [], 0), (6, 1, .iconst 1, 0, 0, 0, [], 0), (7, 1, .isub, 0, 0, 0, [], 0), (8, 1, .istore_n 1, 0, 0, 0, [], 0), (9, 1, .iload_n 1, 0, 0, 0, [], 0), (10, 1, .istore_n 2, 0, 0, 0, [], 0), (11, 1, .iconst 0, 0, 0, 0, [], 0), (12, 1, .istore_n 3, 0, 0, 0, [], 0), (13, 1, .iload_n 3, 0, 0, 0, [], 0), (14, 1, .iload_n 1, 0, 0, 0, [], 0), (15, 3, .if_icmp .gt 31, 28, 0, 0, [], 0), (18, 1, .iload_n 3, 0, 0, 0, [], 0), (19, 3, .invokestatic 126, 259, 1, 1, [], 0), (22, 1, .iload_n 2, 0, 0, 0, [], 0), (23, 3, .invokestatic 126, 259, 1, 1, [], 0), (26, 3, .if_icmp .ge 14, 26, 0, 0, [], 0), (29, 1, .aload_n 0, 0, 0, 0, [], 0), (30, 1, .iload_n 3, 0, 0, 0, [], 0), (31, 3, .invokevirtual 132, 35, 0, 2, [4], 0), (34, 1, .iload_n 1, 0, 0, 0, [], 0), (35, 3, .if_icmp .ne 5, 26, 0, 0, [], 0), (38, 1, .iload_n 3, 0, 0, 0, [], 0), (39, 1, .istore_n 2, 0, 0, 0, [], 0), (40, 3, .iinc 3 1, 0, 0, 0, [], 0), (43, 3, .goto (-30), 11, 0, 0, [], 0), (46, 1, .iload_n 2, 0, 0, 0, [], 0), (47, 1, .ireturn, 0, 0, 0, [], 0)]
def mt_34 : ix_M := (⟨"CryGorge$Land", "fewestKeepers", "()I"⟩, prog_6_method_17_code, 4, (Option.some FieldType.int), 1, 4, mo_34, [])
def mo_35 : List ix_Op := [(0, 1, .iload_n 1, 0, 0, 0, [], 0), (1, 1, .istore_n 2, 0, 0, 0, [], 0), (2, 1, .iconst 0, 0, 0, 0, [], 0), (3, 1, .istore_n 3, 0, 0, 0, [], 0), (4, 1, .iload_n 3, 0, 0, 0, [], 0), (5, 1, .aload_n 0, 0, 0, 0, [], 0), (6, 3, .getfield 39, 4, 6, 0, [], 0), (9, 3, .if_icmp .ge 26, 23, 0, 0, [], 0), (12, 1, .iload_n 1, 0, 0, 0, [], 0), (13, 1, .iload_n 3, 0, 0, 0, [], 0), (14, 1, .ishr, 0, 0, 0, [], 0), (15, 1, .iconst 1, 0, 0, 0, [], 0), (16, 1, .iand, 0, 0, 0, [], 0), (17, 1, .iconst 1, 0, 0, 0, [], 0), (18, 3, .if_icmp .ne 11, 21, 0, 0, [], 0), (21, 1, .iload_n 2, 0, 0, 0, [], 0), (22, 1, .aload_n 0, 0, 0, 0, [], 0), (23, 1, .iload_n 3, 0, 0, 0, [], 0), (24, 3, .invokevirtual 135, 31, 0, 2, [4], 0), (27, 1, .ior, 0, 0, 0, [], 0), (28, 1, .istore_n 2, 0, 0, 0, [], 0), (29, 3, .iinc 3 1, 0, 0, 0, [], 0), (32, 3, .goto (-28), 4, 0, 0, [], 0), (35, 1, .iload_n 2, 0, 0, 0, [], 0), (36, 1, .ireturn, 0, 0, 0, [], 0)]
def mt_35 : ix_M := (⟨"CryGorge$Land", "heardBy", "(I)I"⟩, prog_6_method_18_code, 4, (Option.some FieldType.int), 2, 4, mo_35, [])
def mo_36 : List ix_Op := [(0, 1, .aload_n 0, 0, 0, 0, [], 0), (1, 3, .getfield 18, 4, 2, 0, [], 0), (4, 1, .iload_n 1, 0, 0, 0, [], 0), (5, 1, .iaload, 0, 0, 0, [], 0), (6, 1, .aload_n 0, 0, 0, 0, [], 0), (7, 3, .getfield 18, 4, 2, 0, [], 0), (10, 1, .iload_n 2, 0, 0, 0, [], 0), (11, 1, .iaload, 0, 0, 0, [], 0), (12, 1, .isub, 0, 0, 0, [], 0), (13, 3, .invokestatic 138, 0, 6, 1, [], 0), (16, 2, .bipush 12, 0, 0, 0, [], 0), (18, 1, .irem, 0, 0, 0, [], 0), (19, 1, .ireturn, 0, 0, 0, [], 0)]
def mt_36 : ix_M := (⟨"CryGorge$Land", "intervalOf", "(II)I"⟩, prog_6_method_19_code, 3, (Option.some FieldType.int), 3, 4, mo_36, [])
def mo_37 : List ix_Op := [(0, 1, .aload_n 0, 0, 0, 0, [], 0), (1, 1, .iconst 0, 0, 0, 0, [], 0), (2, 3, .putfield 27, 5, 4, 0, [], 0), (5, 1, .aload_n 0, 0, 0, 0, [], 0), (6, 1, .iconst 1, 0, 0, 0, [], 0), (7, 1, .iconst 0, 0, 0, 0, [], 0), (8, 3, .invokevirtual 31, 39, 0, 3, [5], 0), (11, 1, .aload_n 0, 0, 0, 0, [], 0), (12, 1, .iconst 1, 0, 0, 0, [], 0), (13, 1, .iconst 1, 0, 0, 0, [], 0), (14, 3, .invokevirtual 31, 39, 0, 3, [5], 0), (17, 1, .aload_n 0, 0, 0, 0, [], 0), (18, 1, .iconst 2, 0, 0, 0, [], 0), (19, 1, .iconst 0, 0, 0, 0, [], 0), (20, 3, .invokevirtual 31, 39, 0, 3, [5], 0), (23, 1, .aload_n 0, 0, 0, 0, [], 0), (24, 1, .iconst 1, 0, 0, 0, [], 0), (25, 1, .iconst 2, 0, 0, 0, [], 0), (26, 3, .invokevirtual 31, 39, 0, 3, [5], 0), (29, 1, .aload_n 0, 0, 0, 0, [], 0), (30, 1, .iconst 0, 0, 0, 0, [], 0), (31, 1, .iconst 2, 0, 0, 0, [], 0), (32, 3, .invokevirtual 31, 39, 0, 3, [5], 0), (35, 1, .aload_n 0, 0, 0, 0, [], 0), (36, 1, .iconst 4, 0, 0, 0, [], 0), (37, 1, .iconst 0, 0, 0, 0, [], 0), (38, 3, .invokevirtual 31, 39, 0, 3, [5], 0), (41, 1, .aload_n 0, 0, 0, 0, [], 0), (42, 1, .iconst 3, 0, 0, 0, [], 0), (43, 1, .iconst 0, 0, 0, 0, [], 0), (44, 3, .invokevirtual 31, 39, 0, 3, [5], 0), (47, 1, .return_, 0, 0, 0, [], 0)]
def mt_37 : ix_M := (⟨"CryGorge$Law", "setUsual", "()V"⟩, prog_7_method_2_code, 1, (Option.none : Option FieldType), 1, 5, mo_37, [])
def mo_38 : List ix_Op := [(0, 1, .aload_n 0, 0, 0, 0, [], 0), (1, 1, .aload_n 1, 0, 0, 0, [], 0), (2, 3, .getfield 27, 5, 4, 0, [], 0), (5, 3, .putfield 27, 5, 4, 0, [], 0), (8, 1, .aload_n 1, 0, 0, 0, [], 0), (9, 3, .getfield 15, 5, 1, 0, [], 0), (12, 1, .iconst 0, 0, 0, 0, [], 0), (13, 1, .aload_n 0, 0, 0, 0, [], 0), (14, 3, .getfield 15, 5, 1, 0, [], 0), (17, 1, .iconst 0, 0, 0, 0, [], 0), (18, 3, .sipush 150, 0, 0, 0, [], 0), (21, 3, .invokestatic 35, 0, 7, 5, [], 0), (24, 1, .aload_n 1, 0, 0, 0, [], 0), (25, 3, .getfield 18, 5, 2, 0, [], 0), (28, 1, .iconst 0, 0, 0, 0, [], 0), (29, 1, .aload_n 0, 0, 0, 0, [], 0), (30, 3, .getfield 18, 5, 2, 0, [], 0), (33, 1, .iconst 0, 0, 0, 0, [], 0), (34, 3, .sipush 150, 0, 0, 0, [], 0), (37, 3, .invokestatic 35, 0, 7, 5, [], 0), (40, 1, .return_, 0, 0, 0, [], 0)]
def mt_38 : ix_M := (⟨"CryGorge$Law", "copyFrom", "(LCryGorge$Law;)V"⟩, prog_7_method_3_code, 2, (Option.none : Option FieldType), 2, 5, mo_38, [])
def mo_39 : List ix_Op := [(0, 1, .aload_n 0, 0, 0, 0, [], 0), (1, 3, .getfield 27, 5, 4, 0, [], 0), (4, 1, .aload_n 0, 0, 0, 0, [], 0), (5, 3, .getfield 15, 5, 1, 0, [], 0), (8, 1, .arraylength, 0, 0, 0, [], 0), (9, 3, .if_icmp .ge 33, 24, 0, 0, [], 0), (12, 1, .aload_n 0, 0, 0, 0, [], 0), (13, 3, .getfield 15, 5, 1, 0, [], 0), (16, 1, .aload_n 0, 0, 0, 0, [], 0), (17, 3, .getfield 27, 5, 4, 0, [], 0), (20, 1, .iload_n 1, 0, 0, 0, [], 0), (21, 1, .iastore, 0, 0, 0, [], 0), (22, 1, .aload_n 0, 0, 0, 0, [], 0), (23, 3, .getfield 18, 5, 2, 0, [], 0), (26, 1, .aload_n 0, 0, 0, 0, [], 0), (27, 3, .getfield 27, 5, 4, 0, [], 0), (30, 1, .iload_n 2, 0, 0, 0, [], 0), (31, 1, .iastore, 0, 0, 0, [], 0), (32, 1, .aload_n 0, 0, 0, 0, [], 0), (33, 1, .dup, 0, 0, 0, [], 0), (34, 3, .getfield 27, 5, 4, 0, [], 0), (37, 1, .iconst 1, 0, 0, 0, [], 0), (38, 1, .iadd, 0, 0, 0, [], 0), (39, 3, .putfield 27, 5, 4, 0, [], 0), (42, 1, .return_, 0, 0, 0, [], 0)]
def mt_39 : ix_M := (⟨"CryGorge$Law", "emit", "(II)V"⟩, prog_7_method_4_code, 3, (Option.none : Option FieldType), 3, 5, mo_39, [])
def mo_40 : List ix_Op := [(0, 1, .aload_n 0, 0, 0, 0, [], 0), (1, 1, .iconst 0, 0, 0, 0, [], 0), (2, 3, .putfield 27, 5, 4, 0, [], 0), (5, 1, .aload_n 0, 0, 0, 0, [], 0), (6, 1, .aload_n 1, 0, 0, 0, [], 0), (7, 3, .invokevirtual 41, 41, 0, 2, [5], 0), (10, 1, .aload_n 1, 0, 0, 0, [], 0), (11, 3, .invokevirtual 45, 61, 0, 1, [7], 0), (14, 3, .ifCond .eq 8, 12, 0, 0, [], 0), (17, 1, .aload_n 1, 0, 0, 0, [], 0), (18, 1, .iconst 1, 0, 0, 0, [], 0), (19, 3, .invokevirtual 51, 59, 0, 2, [7], 0), (22, 1, .return_, 0, 0, 0, [], 0)]
def mt_40 : ix_M := (⟨"CryGorge$Law", "read", "(LCryGorge$Reader;)V"⟩, prog_7_method_5_code, 2, (Option.none : Option FieldType), 2, 5, mo_40, [])
def mo_41 : List ix_Op := [(0, 1, .aload_n 0, 0, 0, 0, [], 0), (1, 1, .aload_n 1, 0, 0, 0, [], 0), (2, 3, .invokevirtual 55, 42, 0, 2, [5], 0), (5, 1, .iconst 0, 0, 0, 0, [], 0), (6, 1, .istore_n 2, 0, 0, 0, [], 0), (7, 1, .iload_n 2, 0, 0, 0, [], 0), (8, 3, .sipush 150, 0, 0, 0, [], 0), (11, 3, .if_icmp .ge 61, 38, 0, 0, [], 0), (14, 1, .aload_n 1, 0, 0, 0, [], 0), (15, 3, .invokevirtual 58, 56, 0, 1, [7], 0), (18, 3, .ifCond .ne 54, 38, 0, 0, [], 0), (21, 1, .aload_n 1, 0, 0, 0, [], 0), (22, 2, .bipush 43, 0, 0, 0, [], 0), (24, 3, .invokevirtual 61, 62, 0, 2, [7], 0), (27, 3, .ifCond .eq 7, 17, 0, 0, [], 0), (30, 1, .iconst 2, 0, 0, 0, [], 0), (31, 3, .goto 17, 24, 0, 0, [], 0), (34, 1, .aload_n 1, 0, 0, 0, [], 0), (35, 2, .bipush 45, 0, 0, 0, [], 0), (37, 3, .invokevirtual 61, 62, 0, 2, [7], 0), (40, 3, .ifCond .eq 7, 23, 0, 0, [], 0), (43, 1, .iconst 3, 0, 0, 0, [], 0), (44, 3, .goto 4, 24, 0, 0, [], 0), (47, 1, .iconst (-1), 0, 0, 0, [], 0), (48, 1, .istore_n 3, 0, 0, 0, [], 0), (49, 1, .iload_n 3, 0, 0, 0, [], 0), (50, 1, .iconst (-1), 0, 0, 0, [], 0), (51, 3, .if_icmp .ne 4, 29, 0, 0, [], 0), (54, 1, .return_, 0, 0, 0, [], 0), (55, 1, .aload_n 0, 0, 0, 0, [], 0), (56, 1, .aload_n 1, 0, 0, 0, [], 0), (57, 3, .invokevirtual 55, 42, 0, 2, [5], 0), (60, 1, .aload_n 0, 0, 0, 0, [], 0), (61, 1, .iload_n 3, 0, 0, 0, [], 0), (62, 1, .iconst 0, 0, 0, 0, [], 0), (63, 3, .invokevirtual 31, 39, 0, 3, [5], 0), (66, 3, .iinc 2 1, 0, 0, 0, [], 0), (69, 3, .goto (-62), 5, 0, 0, [], 0), (72, 1, .return_, 0, 0, 0, [], 0)]
def mt_41 : ix_M := (⟨"CryGorge$Law", "readSum", "(LCryGorge$Reader;)V"⟩, prog_7_method_6_code, 4, (Option.none : Option FieldType), 2, 5, mo_41, [])
def mo_42 : List ix_Op := [(0, 1, .aload_n 0, 0, 0, 0, [], 0), (1, 1, .aload_n 1, 0, 0, 0, [], 0), (2, 3, .invokevirtual 65, 43, 0, 2, [5], 0), (5, 1, .iconst 0, 0, 0, 0, [], 0), (6, 1, .istore_n 2, 0, 0, 0, [], 0), (7, 1, .iload_n 2, 0, 0, 0, [], 0), (8, 3, .sipush 150, 0, 0, 0, [], 0), (11, 3, .if_icmp .ge 75, 44, 0, 0, [], 0), (14, 1, .aload_n 1, 0, 0, 0, [], 0), (15, 3, .invokevirtual 58, 56, 0, 1, [7], 0), (18, 3, .ifCond .ne 68, 44, 0, 0, [], 0), (21, 1, .aload_n 1, 0, 0, 0, [], 0), (22, 2, .bipush 42, 0, 0, 0, [], 0), (24, 3, .invokevirtual 61, 62, 0, 2, [7], 0), (27, 3, .ifCond .eq 7, 17, 0, 0, [], 0), (30, 1, .iconst 4, 0, 0, 0, [], 0), (31, 3, .goto 31, 30, 0, 0, [], 0), (34, 1, .aload_n 1, 0, 0, 0, [], 0), (35, 2, .bipush 47, 0, 0, 0, [], 0), (37, 3, .invokevirtual 61, 62, 0, 2, [7], 0), (40, 3, .ifCond .eq 7, 23, 0, 0, [], 0), (43, 1, .iconst 5, 0, 0, 0, [], 0), (44, 3, .goto 18, 30, 0, 0, [], 0), (47, 1, .aload_n 1, 0, 0, 0, [], 0), (48, 2, .bipush 37, 0, 0, 0, [], 0), (50, 3, .invokevirtual 61, 62, 0, 2, [7], 0), (53, 3, .ifCond .eq 8, 29, 0, 0, [], 0), (56, 2, .bipush 6, 0, 0, 0, [], 0), (58, 3, .goto 4, 30, 0, 0, [], 0), (61, 1, .iconst (-1), 0, 0, 0, [], 0), (62, 1, .istore_n 3, 0, 0, 0, [], 0), (63, 1, .iload_n 3, 0, 0, 0, [], 0), (64, 1, .iconst (-1), 0, 0, 0, [], 0), (65, 3, .if_icmp .ne 4, 35, 0, 0, [], 0), (68, 1, .return_, 0, 0, 0, [], 0), (69, 1, .aload_n 0, 0, 0, 0, [], 0), (70, 1, .aload_n 1, 0, 0, 0, [], 0), (71, 3, .invokevirtual 65, 43, 0, 2, [5], 0), (74, 1, .aload_n 0, 0, 0, 0, [], 0), (75, 1, .iload_n 3, 0, 0, 0, [], 0), (76, 1, .iconst 0, 0, 0, 0, [], 0), (77, 3, .invokevirtual 31, 39, 0, 3, [5], 0), (80, 3, .iinc 2 1, 0, 0, 0, [], 0), (83, 3, .goto (-76), 5, 0, 0, [], 0), (86, 1, .return_, 0, 0, 0, [], 0)]
def mt_42 : ix_M := (⟨"CryGorge$Law", "readProduct", "(LCryGorge$Reader;)V"⟩, prog_7_method_7_code, 4, (Option.none : Option FieldType), 2, 5, mo_42, [])
def mo_43 : List ix_Op := [(0, 1, .aload_n 1, 0, 0, 0, [], 0), (1, 3, .invokevirtual 58, 56, 0, 1, [7], 0), (4, 3, .ifCond .eq 4, 4, 0, 0, [], 0), (7, 1, .return_, 0, 0, 0, [], 0), (8, 1, .aload_n 1, 0, 0, 0, [], 0), (9, 3, .invokevirtual 68, 60, 0, 1, [7], 0), (12, 3, .invokestatic 72, 69, 1, 1, [], 0), (15, 3, .ifCond .eq 19, 16, 0, 0, [], 0), (18, 1, .aload_n 0, 0, 0, 0, [], 0), (19, 1, .iconst 0, 0, 0, 0, [], 0), (20, 1, .aload_n 1, 0, 0, 0, [], 0), (21, 1, .iconst 0, 0, 0, 0, [], 0), (22, 3, .sipush 999, 0, 0, 0, [], 0), (25, 3, .invokevirtual 76, 64, 0, 3, [7], 0), (28, 3, .invokevirtual 31, 39, 0, 3, [5], 0), (31, 3, .goto 85, 56, 0, 0, [], 0), (34, 1, .aload_n 1, 0, 0, 0, [], 0), (35, 2, .bipush 40, 0, 0, 0, [], 0), (37, 3, .invokevirtual 61, 62, 0, 2, [7], 0), (40, 3, .ifCond .eq 25, 31, 0, 0, [], 0), (43, 1, .aload_n 1, 0, 0, 0, [], 0), (44, 3, .invokevirtual 80, 67, 0, 1, [7], 0), (47, 1, .aload_n 0, 0, 0, 0, [], 0), (48, 1, .aload_n 1, 0, 0, 0, [], 0), (49, 3, .invokevirtual 41, 41, 0, 2, [5], 0), (52, 1, .aload_n 1, 0, 0, 0, [], 0), (53, 2, .bipush 41, 0, 0, 0, [], 0), (55, 3, .invokevirtual 83, 63, 0, 2, [7], 0), (58, 1, .aload_n 1, 0, 0, 0, [], 0), (59, 3, .invokevirtual 87, 68, 0, 1, [7], 0), (62, 3, .goto 54, 56, 0, 0, [], 0), (65, 1, .aload_n 1, 0, 0, 0, [], 0), (66, 3, .invokevirtual 90, 65, 0, 1, [7], 0), (69, 1, .aload_n 1, 0, 0, 0, [], 0), (70, 2, .ldc 93, 2010, 0, 1, [], 0), (72, 3, .invokevirtual 95, 66, 0, 2, [7], 0), (75, 3, .ifCond .eq 13, 42, 0, 0, [], 0), (78, 1, .aload_n 0, 0, 0, 0, [], 0), (79, 1, .aload_n 1, 0, 0, 0, [], 0), (80, 2, .bipush 7, 0, 0, 0, [], 0), (82, 3, .invokevirtual 99, 44, 0, 3, [5], 0), (85, 3, .goto 31, 56, 0, 0, [], 0), (88, 1, .aload_n 1, 0, 0, 0, [], 0), (89, 2, .ldc 103, 2013, 0, 1, [], 0), (91, 3, .invokevirtual 95, 66, 0, 2, [7], 0), (94, 3, .ifCond .eq 13, 51, 0, 0, [], 0), (97, 1, .aload_n 0, 0, 0, 0, [], 0), (98, 1, .aload_n 1, 0, 0, 0, [], 0), (99, 2, .bipush 8, 0, 0, 0, [], 0), (101, 3, .invokevirtual 99, 44, 0, 3, [5], 0), (104, 3, .goto 12, 56, 0, 0, [], 0), (107, 1, .aload_n 0, 0, 0, 0, [], 0), (108, 1, .iconst 1, 0, 0, 0, [], 0), (109, 1, .aload_n 1, 0, 0, 0, [], 0), (110, 3, .invokestatic 105, 45, 1, 1, [], 0), (113, 3, .invokevirtual 31, 39, 0, 3, [5], 0), (116, 1, .return_, 0, 0, 0, [], 0)]
def mt_43 : ix_M := (⟨"CryGorge$Law", "readUnit", "(LCryGorge$Reader;)V"⟩, prog_7_method_8_code, 2, (Option.none : Option FieldType), 2, 5, mo_43, [])
def mo_44 : List ix_Op := [(0, 1, .aload_n 1, 0, 0, 0, [], 0), (1, 3, .invokevirtual 80, 67, 0, 1, [7], 0), (4, 1, .aload_n 1, 0, 0, 0, [], 0), (5, 2, .bipush 91, 0, 0, 0, [], 0), (7, 3, .invokevirtual 83, 63, 0, 2, [7], 0), (10, 1, .aload_n 0, 0, 0, 0, [], 0), (11, 1, .aload_n 1, 0, 0, 0, [], 0), (12, 3, .invokevirtual 41, 41, 0, 2, [5], 0), (15, 1, .aload_n 1, 0, 0, 0, [], 0), (16, 2, .bipush 44, 0, 0, 0, [], 0), (18, 3, .invokevirtual 83, 63, 0, 2, [7], 0), (21, 1, .aload_n 0, 0, 0, 0, [], 0), (22, 1, .aload_n 1, 0, 0, 0, [], 0), (23, 3, .invokevirtual 41, 41, 0, 2, [5], 0), (26, 1, .aload_n 1, 0, 0, 0, [], 0), (27, 2, .bipush 93, 0, 0, 0, [], 0), (29, 3, .invokevirtual 83, 63, 0, 2, [7], 0), (32, 1, .aload_n 1, 0, 0, 0, [], 0), (33, 3, .invokevirtual 87, 68, 0, 1, [7], 0), (36, 1, .aload_n 0, 0, 0, 0, [], 0), (37, 1, .iload_n 2, 0, 0, 0, [], 0), (38, 1, .iconst 0, 0, 0, 0, [], 0), (39, 3, .invokevirtual 31, 39, 0, 3, [5], 0), (42, 1, .return_, 0, 0, 0, [], 0)]
def mt_44 : ix_M := (⟨"CryGorge$Law", "readTwo", "(LCryGorge$Reader;I)V"⟩, prog_7_method_9_code, 3, (Option.none : Option FieldType), 3, 5, mo_44, [])
def mo_45 : List ix_Op := [(0, 1, .aload_n 0, 0, 0, 0, [], 0), (1, 2, .ldc 109, 2006, 0, 1, [], 0), (3, 3, .invokevirtual 95, 66, 0, 2, [7], 0), (6, 3, .ifCond .eq 5, 6, 0, 0, [], 0), (9, 1, .iconst 0, 0, 0, 0, [], 0), (10, 1, .ireturn, 0, 0, 0, [], 0), (11, 1, .aload_n 0, 0, 0, 0, [], 0), (12, 2, .ldc 111, 2012, 0, 1, [], 0), (14, 3, .invokevirtual 95, 66, 0, 2, [7], 0), (17, 3, .ifCond .eq 5, 12, 0, 0, [], 0), (20, 1, .iconst 1, 0, 0, 0, [], 0), (21, 1, .ireturn, 0, 0, 0, [], 0), (22, 1, .aload_n 0, 0, 0, 0, [], 0), (23, 2, .ldc 113, 2007, 0, 1, [], 0), (25, 3, .invokevirtual 95, 66, 0, 2, [7], 0), (28, 3, .ifCond .eq 5, 18, 0, 0, [], 0), (31, 1, .iconst 2, 0, 0, 0, [], 0), (32, 1, .ireturn, 0, 0, 0, [], 0), (33, 1, .aload_n 0, 0, 0, 0, [], 0), (34, 2, .ldc 115, 2018, 0, 1, [], 0), (36, 3, .invokevirtual 95, 66, 0, 2, [7], 0), (39, 3, .ifCond .eq 5, 24, 0, 0, [], 0), (42, 1, .iconst 3, 0, 0, 0, [], 0), (43, 1, .ireturn, 0, 0, 0, [], 0), (44, 1, .aload_n 0, 0, 0, 0, [], 0), (45, 2, .ldc 117, 2017, 0, 1, [], 0), (47, 3, .invokevirtual 95, 66, 0, 2, [7], 0), (50, 3, .ifCond .eq 5, 30, 0, 0, [], 0), (53, 1, .iconst 4, 0, 0, 0, [], 0), (54, 1, .ireturn, 0, 0, 0, [], 0), (55, 1, .aload_n 0, 0, 0, 0, [], 0), (56, 2, .ldc 119, 2001, 0, 1, [], 0), (58, 3, .invokevirtual 95, 66, 0, 2, [7], 0), (61, 3, .ifCond .eq 5, 36, 0, 0, [], 0), (64, 1, .iconst 5, 0, 0, 0, [], 0), (65, 1, .ireturn, 0, 0, 0, [], 0), (66, 1, .aload_n 0, 0, 0, 0, [], 0), (67, 2, .ldc 121, 2004, 0, 1, [], 0), (69, 3, .invokevirtual 95, 66, 0, 2, [7], 0), (72, 3, .ifCond .eq 6, 42, 0, 0, [], 0), (75, 2, .bipush 6, 0, 0, 0, [], 0), (77, 1, .ireturn, 0, 0, 0, [], 0), (78, 1, .aload_n 0, 0, 0, 0, [], 0), (79, 2, .ldc 123, 2020, 0, 1, [], 0), (81, 3, .invokevirtual 95, 66, 0, 2, [7], 0), (84, 3, .ifCond .ne 8, 49, 0, 0, [], 0), (87, 1, .aload_n 0, 0, 0, 0, [], 0), (88, 1, .iconst 1, 0, 0, 0, [], 0), (89, 3, .invokevirtual 51, 59, 0, 2, [7], 0), (92, 2, .bipush 7, 0, 0, 0, [], 0), (94, 1, .ireturn, 0, 0, 0, [], 0)]
def mt_45 : ix_M := (⟨"CryGorge$Law", "nameOf", "(LCryGorge$Reader;)I"⟩, prog_7_method_10_code, 1, (Option.some FieldType.int), 1, 5, mo_45, [])
def mo_46 : List ix_Op := [(0, 1, .iconst 0, 0, 0, 0, [], 0), (1, 1, .istore_n 1, 0, 0, 0, [], 0), (2, 1, .iconst 0, 0, 0, 0, [], 0), (3, 1, .istore_n 2, 0, 0, 0, [], 0), (4, 1, .iload_n 2, 0, 0, 0, [], 0), (5, 1, .aload_n 0, 0, 0, 0, [], 0), (6, 3, .getfield 27, 5, 4, 0, [], 0), (9, 3, .if_icmp .ge 93, 60, 0, 0, [], 0), (12, 1, .aload_n 0, 0, 0, 0, [], 0), (13, 3, .getfield 15, 5, 1, 0, [], 0), (16, 1, .iload_n 2, 0, 0, 0, [], 0), (17, 1, .iaload, 0, 0, 0, [], 0), (18, 3, .ifCond .eq 13, 19, 0, 0, [], 0), (21, 1, .aload_n 0, 0, 0, 0, [], 0), (22, 3, .getfield 15, 5, 1, 0, [], 0), (25, 1, .iload_n 2, 0, 0, 0, [], 0), (26, 1, .iaload, 0, 0, 0, [], 0), (27, 1, .iconst 1, 0, 0, 0, [], 0), (28, 3, .if_icmp .ne 29, 33, 0, 0, [], 0), (31, 1, .iload_n 1, 0, 0, 0, [], 0), (32, 1, .aload_n 0, 0, 0, 0, [], 0), (33, 3, .getfield 21, 5, 3, 0, [], 0), (36, 1, .arraylength, 0, 0, 0, [], 0), (37, 3, .if_icmp .ge 59, 58, 0, 0, [], 0), (40, 1, .aload_n 0, 0, 0, 0, [], 0), (41, 3, .getfield 21, 5, 3, 0, [], 0), (44, 1, .iload_n 1, 0, 0, 0, [], 0), (45, 1, .aload_n 0, 0, 0, 0, [], 0), (46, 1, .iload_n 2, 0, 0, 0, [], 0), (47, 3, .invokevirtual 125, 47, 0, 2, [5], 0), (50, 1, .iastore, 0, 0, 0, [], 0), (51, 3, .iinc 1 1, 0, 0, 0, [], 0), (54, 3, .goto 42, 58, 0, 0, [], 0), (57, 1, .iload_n 1, 0, 0, 0, [], 0), (58, 1, .iconst 2, 0, 0, 0, [], 0), (59, 3, .if_icmp .lt 37, 58, 0, 0, [], 0), (62, 3, .iinc 1 (-1), 0, 0, 0, [], 0), (65, 1, .aload_n 0, 0, 0, 0, [], 0), (66, 3, .getfield 21, 5, 3, 0, [], 0), (69, 1, .iload_n 1, 0, 0, 0, [], 0), (70, 1, .iconst 1, 0, 0, 0, [], 0), (71, 1, .isub, 0, 0, 0, [], 0), (72, 1, .aload_n 0, 0, 0, 0, [], 0), (73, 3, .getfield 15, 5, 1, 0, [], 0), (76, 1, .iload_n 2, 0, 0, 0, [], 0), (77, 1, .iaload, 0, 0, 0, [], 0), (78, 1, .aload_n 0, 0, 0, 0, [], 0), (79, 3, .getfield 21, 5, 3, 0, [], 0), (82, 1, .iload_n 1, 0, 0, 0, [], 0), (83, 1, .iconst 1, 0, 0, 0, [], 0), (84, 1, .isub, 0, 0, 0, [], 0), (85, 1, .iaload, 0, 0, 0, [], 0), (86, 1, .aload_n 0, 0, 0, 0, [], 0), (87, 3, .getfield 21, 5, 3, 0, [], 0), (90, 1, .iload_n 1, 0, 0, 0, [], 0), (91, 1, .iaload, 0, 0, 0, [], 0), (92, 3, .invokestatic 129, 48, 1, 3, [], 0), (95, 1, .iastore, 0, 0, 0, [], 0), (96, 3, .iinc 2 1, 0, 0, 0, [], 0), (99, 3, .goto (-95), 4, 0, 0, [], 0), (102, 1, .iconst 0, 0, 0, 0, [], 0), (103, 1, .aload_n 0, 0, 0, 0, [], 0), (104, 3, .getfield 21, 5, 3, 0, [], 0), (107, 1, .iconst 0, 0, 0, 0, [], 0), (108, 1, .iaload, 0, 0, 0, [], 0), (109, 2, .bipush 99, 0, 0, 0, [], 0), (111, 3, .invokestatic 133, 0, 5, 2, [], 0), (114, 3, .invokestatic 138, 0, 4, 2, [], 0), (117, 1, .ireturn, 0, 0, 0, [], 0)]
def mt_46 : ix_M := (⟨"CryGorge$Law", "fades", "()I"⟩, prog_7_method_11_code, 3, (Option.some FieldType.int), 1, 5, mo_46, [])
def mo_47 : List ix_Op := [(0, 1, .aload_n 0, 0, 0, 0, [], 0), (1, 3, .getfield 18, 5, 2, 0, [], 0), (4, 1, .iload_n 1, 0, 0, 0, [], 0), (5, 1, .iaload, 0, 0, 0, [], 0), (6, 1, .istore_n 2, 0, 0, 0, [], 0), (7, 1, .aload_n 0, 0, 0, 0, [], 0), (8, 3, .getfield 15, 5, 1, 0, [], 0), (11, 1, .iload_n 1, 0, 0, 0, [], 0), (12, 1, .iaload, 0, 0, 0, [], 0), (13, 1, .iconst 1, 0, 0, 0, [], 0), (14, 3, .if_icmp .ne 23, 23, 0, 0, [], 0), (17, 1, .iload_n 2, 0, 0, 0, [], 0), (18, 3, .ifCond .lt 19, 23, 0, 0, [], 0), (21, 1, .iload_n 2, 0, 0, 0, [], 0), (22, 1, .aload_n 0, 0, 0, 0, [], 0), (23, 3, .getfield 11, 5, 0, 0, [], 0), (26, 1, .arraylength, 0, 0, 0, [], 0), (27, 3, .if_icmp .ge 10, 23, 0, 0, [], 0), (30, 1, .aload_n 0, 0, 0, 0, [], 0), (31, 3, .getfield 11, 5, 0, 0, [], 0), (34, 1, .iload_n 2, 0, 0, 0, [], 0), (35, 1, .iaload, 0, 0, 0, [], 0), (36, 1, .ireturn, 0, 0, 0, [], 0), (37, 1, .iload_n 2, 0, 0, 0, [], 0), (38, 1, .ireturn, 0, 0, 0, [], 0)]
def mt_47 : ix_M := (⟨"CryGorge$Law", "valueOf", "(I)I"⟩, prog_7_method_12_code, 3, (Option.some FieldType.int), 2, 5, mo_47, [])
def mo_48 : List ix_Op := [(0, 1, .iload_n 0, 0, 0, 0, [], 0), (1, 39, .tableswitch 86 2 7 #[39, 43, 47, 51, 63, 75], 37, 0, 0, [2, 6, 10, 14, 22, 30], 0), (40, 1, .iload_n 1, 0, 0, 0, [], 0), (41, 1, .iload_n 2, 0, 0, 0, [], 0), (42, 1, .iadd, 0, 0, 0, [], 0), (43, 1, .ireturn, 0, 0, 0, [], 0), (44, 1, .iload_n 1, 0, 0, 0, [], 0), (45, 1, .iload_n 2, 0, 0, 0, [], 0), (46, 1, .isub, 0, 0, 0, [], 0), (47, 1, .ireturn, 0, 0, 0, [], 0), (48, 1, .iload_n 1, 0, 0, 0, [], 0), (49, 1, .iload_n 2, 0, 0, 0, [], 0), (50, 1, .imul, 0, 0, 0, [], 0), (51, 1, .ireturn, 0, 0, 0, [], 0), (52, 1, .iload_n 2, 0, 0, 0, [], 0), (53, 3, .ifCond .ne 7, 18, 0, 0, [], 0), (56, 1, .iconst 0, 0, 0, 0, [], 0), (57, 3, .goto 6, 21, 0, 0, [], 0), (60, 1, .iload_n 1, 0, 0, 0, [], 0), (61, 1, .iload_n 2, 0, 0, 0, [], 0), (62, 1, .idiv, 0, 0, 0, [], 0), (63, 1, .ireturn, 0, 0, 0, [], 0), (64, 1, .iload_n 2, 0, 0, 0, [], 0), (65, 3, .ifCond .ne 7, 26, 0, 0, [], 0), (68, 1, .iconst 0, 0, 0, 0, [], 0), (69, 3, .goto 6, 29, 0, 0, [], 0), (72, 1, .iload_n 1, 0, 0, 0, [], 0), (73, 1, .iload_n 2, 0, 0, 0, [], 0), (74, 1, .irem, 0, 0, 0, [], 0), (75, 1, .ireturn, 0, 0, 0, [], 0), (76, 1, .iload_n 1, 0, 0, 0, [], 0), (77, 1, .iload_n 2, 0, 0, 0, [], 0), (78, 3, .if_icmp .ge 7, 35, 0, 0, [], 0), (81, 1, .iload_n 1, 0, 0, 0, [], 0), (82, 3, .goto 4, 36, 0, 0, [], 0), (85, 1, .iload_n 2, 0, 0, 0, [], 0), (86, 1, .ireturn, 0, 0, 0, [], 0), (87, 1, .iload_n 1, 0, 0, 0, [], 0), (88, 1, .iload_n 2, 0, 0, 0, [], 0), (89, 3, .if_icmp .le 7, 42, 0, 0, [], 0), (92, 1, .iload_n 1, 0, 0, 0, [], 0), (93, 3, .goto 4, 43, 0, 0, [], 0), (96, 1, .iload_n 2, 0, 0, 0, [], 0), (97, 1, .ireturn, 0, 0, 0, [], 0)]
def mt_48 : ix_M := (⟨"CryGorge$Law", "join", "(III)I"⟩, prog_7_method_13_code, 3, (Option.some FieldType.int), 3, 5, mo_48, [])
def mo_49 : List ix_Op := [(0, 1, .iload_n 1, 0, 0, 0, [], 0), (1, 3, .ifCond .lt 20, 11, 0, 0, [], 0), (4, 1, .iload_n 1, 0, 0, 0, [], 0), (5, 1, .aload_n 0, 0, 0, 0, [], 0), (6, 3, .getfield 32, 6, 6, 0, [], 0), (9, 3, .if_icmp .ge 12, 11, 0, 0, [], 0), (12, 1, .aload_n 0, 0, 0, 0, [], 0), (13, 3, .getfield 18, 6, 4, 0, [], 0), (16, 1, .iload_n 1, 0, 0, 0, [], 0), (17, 1, .iaload, 0, 0, 0, [], 0), (18, 3, .goto 4, 12, 0, 0, [], 0), (21, 1, .iconst (-1), 0, 0, 0, [], 0), (22, 1, .ireturn, 0, 0, 0, [], 0)]
def mt_49 : ix_M := (⟨"CryGorge$Planner", "bayOf", "(I)I"⟩, prog_8_method_2_code, 2, (Option.some FieldType.int), 2, 6, mo_49, [])
def mo_50 : List ix_Op := [(0, 1, .aload_n 0, 0, 0, 0, [], 0), (1, 1, .iload_n 1, 0, 0, 0, [], 0), (2, 1, .aload_n 2, 0, 0, 0, [], 0), (3, 3, .invokevirtual 36, 51, 0, 3, [6], 0), (6, 1, .iconst 0, 0, 0, 0, [], 0), (7, 1, .istore_n 3, 0, 0, 0, [], 0), (8, 1, .iload_n 3, 0, 0, 0, [], 0), (9, 2, .bipush 6, 0, 0, 0, [], 0), (11, 3, .if_icmp .ge 16, 16, 0, 0, [], 0), (14, 1, .aload_n 0, 0, 0, 0, [], 0), (15, 3, .getfield 21, 6, 5, 0, [], 0), (18, 1, .iload_n 3, 0, 0, 0, [], 0), (19, 1, .iconst 0, 0, 0, 0, [], 0), (20, 1, .iastore, 0, 0, 0, [], 0), (21, 3, .iinc 3 1, 0, 0, 0, [], 0), (24, 3, .goto (-16), 6, 0, 0, [], 0), (27, 1, .aload_n 0, 0, 0, 0, [], 0), (28, 1, .iconst (-1), 0, 0, 0, [], 0), (29, 3, .putfield 40, 6, 7, 0, [], 0), (32, 1, .aload_n 0, 0, 0, 0, [], 0), (33, 1, .iconst 0, 0, 0, 0, [], 0), (34, 3, .invokevirtual 43, 53, 0, 2, [6], 0), (37, 1, .aload_n 0, 0, 0, 0, [], 0), (38, 3, .getfield 40, 6, 7, 0, [], 0), (41, 1, .ireturn, 0, 0, 0, [], 0)]
def mt_50 : ix_M := (⟨"CryGorge$Planner", "leastLoss", "(ILCryGorge$State;)I"⟩, prog_8_method_3_code, 4, (Option.some FieldType.int), 3, 6, mo_50, [])
def mo_51 : List ix_Op := [(0, 1, .aload_n 0, 0, 0, 0, [], 0), (1, 1, .iconst 0, 0, 0, 0, [], 0), (2, 3, .putfield 32, 6, 6, 0, [], 0), (5, 1, .iconst 0, 0, 0, 0, [], 0), (6, 1, .istore_n 3, 0, 0, 0, [], 0), (7, 1, .iload_n 3, 0, 0, 0, [], 0), (8, 1, .aload_n 0, 0, 0, 0, [], 0), (9, 3, .getfield 24, 6, 0, 0, [], 0), (12, 3, .getfield 47, 4, 7, 1, [], 0), (15, 3, .if_icmp .ge 101, 60, 0, 0, [], 0), (18, 1, .aload_n 0, 0, 0, 0, [], 0), (19, 3, .getfield 32, 6, 6, 0, [], 0), (22, 1, .iconst 5, 0, 0, 0, [], 0), (23, 3, .if_icmp .ge 93, 60, 0, 0, [], 0), (26, 1, .iload_n 1, 0, 0, 0, [], 0), (27, 1, .iload_n 3, 0, 0, 0, [], 0), (28, 1, .ishr, 0, 0, 0, [], 0), (29, 1, .iconst 1, 0, 0, 0, [], 0), (30, 1, .iand, 0, 0, 0, [], 0), (31, 1, .iconst 1, 0, 0, 0, [], 0), (32, 3, .if_icmp .ne 78, 58, 0, 0, [], 0), (35, 1, .iconst 0, 0, 0, 0, [], 0), (36, 2, .istore 4, 0, 0, 0, [], 0), (38, 2, .iload 4, 0, 0, 0, [], 0), (40, 1, .aload_n 0, 0, 0, 0, [], 0), (41, 3, .getfield 24, 6, 0, 0, [], 0), (44, 3, .getfield 52, 4, 6, 1, [], 0), (47, 3, .if_icmp .ge 53, 52, 0, 0, [], 0), (50, 1, .iconst 0, 0, 0, 0, [], 0), (51, 2, .istore 5, 0, 0, 0, [], 0), (53, 2, .iload 5, 0, 0, 0, [], 0), (55, 1, .iconst 4, 0, 0, 0, [], 0), (56, 3, .if_icmp .ge 38, 50, 0, 0, [], 0), (59, 1, .aload_n 0, 0, 0, 0, [], 0), (60, 3, .getfield 9, 6, 2, 0, [], 0), (63, 1, .aload_n 0, 0, 0, 0, [], 0), (64, 3, .getfield 32, 6, 6, 0, [], 0), (67, 2, .iload 4, 0, 0, 0, [], 0), (69, 2, .iload 5, 0, 0, 0, [], 0), (71, 3, .invokestatic 55, 52, 1, 3, [], 0), (74, 1, .aload_n 0, 0, 0, 0, [], 0), (75, 3, .getfield 28, 6, 1, 0, [], 0), (78, 1, .aload_n 2, 0, 0, 0, [], 0), (79, 1, .iload_n 3, 0, 0, 0, [], 0), (80, 2, .iload 4, 0, 0, 0, [], 0), (82, 2, .iload 5, 0, 0, 0, [], 0), (84, 3, .invokevirtual 59, 70, 0, 5, [8], 0), (87, 1, .iastore, 0, 0, 0, [], 0), (88, 3, .iinc 5 1, 0, 0, 0, [], 0), (91, 3, .goto (-38), 30, 0, 0, [], 0), (94, 3, .iinc 4 1, 0, 0, 0, [], 0), (97, 3, .goto (-59), 23, 0, 0, [], 0), (100, 1, .aload_n 0, 0, 0, 0, [], 0), (101, 1, .dup, 0, 0, 0, [], 0), (102, 3, .getfield 32, 6, 6, 0, [], 0), (105, 1, .iconst 1, 0, 0, 0, [], 0), (106, 1, .iadd, 0, 0, 0, [], 0), (107, 3, .putfield 32, 6, 6, 0, [], 0), (110, 3, .iinc 3 1, 0, 0, 0, [], 0), (113, 3, .goto (-106), 5, 0, 0, [], 0), (116, 1, .return_, 0, 0, 0, [], 0)]
def mt_51 : ix_M := (⟨"CryGorge$Planner", "foresee", "(ILCryGorge$State;)V"⟩, prog_8_method_4_code, 6, (Option.none : Option FieldType), 3, 6, mo_51, [])
def mo_52 : List ix_Op := [(0, 1, .iload_n 0, 0, 0, 0, [], 0), (1, 2, .bipush 6, 0, 0, 0, [], 0), (3, 1, .imul, 0, 0, 0, [], 0), (4, 1, .iload_n 1, 0, 0, 0, [], 0), (5, 1, .iadd, 0, 0, 0, [], 0), (6, 1, .iconst 4, 0, 0, 0, [], 0), (7, 1, .imul, 0, 0, 0, [], 0), (8, 1, .iload_n 2, 0, 0, 0, [], 0), (9, 1, .iadd, 0, 0, 0, [], 0), (10, 1, .ireturn, 0, 0, 0, [], 0)]
def mt_52 : ix_M := (⟨"CryGorge$Planner", "cell", "(III)I"⟩, prog_8_method_5_code, 3, (Option.some FieldType.int), 3, 6, mo_52, [])
def mo_53 : List ix_Op := [(0, 1, .iload_n 1, 0, 0, 0, [], 0), (1, 1, .aload_n 0, 0, 0, 0, [], 0), (2, 3, .getfield 32, 6, 6, 0, [], 0), (5, 3, .if_icmp .lt 8, 7, 0, 0, [], 0), (8, 1, .aload_n 0, 0, 0, 0, [], 0), (9, 3, .invokevirtual 65, 54, 0, 1, [6], 0), (12, 1, .return_, 0, 0, 0, [], 0), (13, 1, .iconst 0, 0, 0, 0, [], 0), (14, 1, .istore_n 2, 0, 0, 0, [], 0), (15, 1, .iload_n 2, 0, 0, 0, [], 0), (16, 1, .aload_n 0, 0, 0, 0, [], 0), (17, 3, .getfield 24, 6, 0, 0, [], 0), (20, 3, .getfield 52, 4, 6, 1, [], 0), (23, 3, .if_icmp .ge 61, 52, 0, 0, [], 0), (26, 1, .aload_n 0, 0, 0, 0, [], 0), (27, 3, .getfield 21, 6, 5, 0, [], 0), (30, 1, .iload_n 2, 0, 0, 0, [], 0), (31, 1, .iaload, 0, 0, 0, [], 0), (32, 1, .aload_n 0, 0, 0, 0, [], 0), (33, 3, .getfield 24, 6, 0, 0, [], 0), (36, 3, .getfield 68, 4, 1, 1, [], 0), (39, 1, .iload_n 2, 0, 0, 0, [], 0), (40, 1, .iaload, 0, 0, 0, [], 0), (41, 3, .if_icmp .ge 37, 50, 0, 0, [], 0), (44, 1, .aload_n 0, 0, 0, 0, [], 0), (45, 3, .getfield 15, 6, 3, 0, [], 0), (48, 1, .iload_n 1, 0, 0, 0, [], 0), (49, 1, .iload_n 2, 0, 0, 0, [], 0), (50, 1, .iastore, 0, 0, 0, [], 0), (51, 1, .aload_n 0, 0, 0, 0, [], 0), (52, 3, .getfield 21, 6, 5, 0, [], 0), (55, 1, .iload_n 2, 0, 0, 0, [], 0), (56, 1, .dup2, 0, 0, 0, [], 0), (57, 1, .iaload, 0, 0, 0, [], 0), (58, 1, .iconst 1, 0, 0, 0, [], 0), (59, 1, .iadd, 0, 0, 0, [], 0), (60, 1, .iastore, 0, 0, 0, [], 0), (61, 1, .aload_n 0, 0, 0, 0, [], 0), (62, 1, .iload_n 1, 0, 0, 0, [], 0), (63, 1, .iconst 1, 0, 0, 0, [], 0), (64, 1, .iadd, 0, 0, 0, [], 0), (65, 3, .invokevirtual 43, 53, 0, 2, [6], 0), (68, 1, .aload_n 0, 0, 0, 0, [], 0), (69, 3, .getfield 21, 6, 5, 0, [], 0), (72, 1, .iload_n 2, 0, 0, 0, [], 0), (73, 1, .dup2, 0, 0, 0, [], 0), (74, 1, .iaload, 0, 0, 0, [], 0), (75, 1, .iconst 1, 0, 0, 0, [], 0), (76, 1, .isub, 0, 0, 0, [], 0), (77, 1, .iastore, 0, 0, 0, [], 0), (78, 3, .iinc 2 1, 0, 0, 0, [], 0), (81, 3, .goto (-66), 9, 0, 0, [], 0), (84, 1, .return_, 0, 0, 0, [], 0)]
def mt_53 : ix_M := (⟨"CryGorge$Planner", "tryFrom", "(I)V"⟩, prog_8_method_6_code, 3, (Option.none : Option FieldType), 2, 6, mo_53, [])
def mo_54 : List ix_Op := [(0, 1, .iconst 0, 0, 0, 0, [], 0), (1, 1, .istore_n 1, 0, 0, 0, [], 0), (2, 1, .iconst 0, 0, 0, 0, [], 0), (3, 1, .istore_n 2, 0, 0, 0, [], 0), (4, 1, .iload_n 2, 0, 0, 0, [], 0), (5, 1, .aload_n 0, 0, 0, 0, [], 0), (6, 3, .getfield 32, 6, 6, 0, [], 0), (9, 3, .if_icmp .ge 40, 31, 0, 0, [], 0), (12, 1, .iload_n 1, 0, 0, 0, [], 0), (13, 1, .aload_n 0, 0, 0, 0, [], 0), (14, 3, .getfield 9, 6, 2, 0, [], 0), (17, 1, .iload_n 2, 0, 0, 0, [], 0), (18, 1, .aload_n 0, 0, 0, 0, [], 0), (19, 3, .getfield 15, 6, 3, 0, [], 0), (22, 1, .iload_n 2, 0, 0, 0, [], 0), (23, 1, .iaload, 0, 0, 0, [], 0), (24, 1, .aload_n 0, 0, 0, 0, [], 0), (25, 3, .getfield 21, 6, 5, 0, [], 0), (28, 1, .aload_n 0, 0, 0, 0, [], 0), (29, 3, .getfield 15, 6, 3, 0, [], 0), (32, 1, .iload_n 2, 0, 0, 0, [], 0), (33, 1, .iaload, 0, 0, 0, [], 0), (34, 1, .iaload, 0, 0, 0, [], 0), (35, 1, .iconst 1, 0, 0, 0, [], 0), (36, 1, .isub, 0, 0, 0, [], 0), (37, 3, .invokestatic 55, 52, 1, 3, [], 0), (40, 1, .iaload, 0, 0, 0, [], 0), (41, 1, .iadd, 0, 0, 0, [], 0), (42, 1, .istore_n 1, 0, 0, 0, [], 0), (43, 3, .iinc 2 1, 0, 0, 0, [], 0), (46, 3, .goto (-42), 4, 0, 0, [], 0), (49, 1, .aload_n 0, 0, 0, 0, [], 0), (50, 3, .getfield 40, 6, 7, 0, [], 0), (53, 1, .iconst (-1), 0, 0, 0, [], 0), (54, 3, .if_icmp .eq 11, 39, 0, 0, [], 0), (57, 1, .iload_n 1, 0, 0, 0, [], 0), (58, 1, .aload_n 0, 0, 0, 0, [], 0), (59, 3, .getfield 40, 6, 7, 0, [], 0), (62, 3, .if_icmp .ge 22, 50, 0, 0, [], 0), (65, 1, .aload_n 0, 0, 0, 0, [], 0), (66, 1, .iload_n 1, 0, 0, 0, [], 0), (67, 3, .putfield 40, 6, 7, 0, [], 0), (70, 1, .aload_n 0, 0, 0, 0, [], 0), (71, 3, .getfield 15, 6, 3, 0, [], 0), (74, 1, .iconst 0, 0, 0, 0, [], 0), (75, 1, .aload_n 0, 0, 0, 0, [], 0), (76, 3, .getfield 18, 6, 4, 0, [], 0), (79, 1, .iconst 0, 0, 0, 0, [], 0), (80, 1, .iconst 5, 0, 0, 0, [], 0), (81, 3, .invokestatic 71, 0, 7, 5, [], 0), (84, 1, .return_, 0, 0, 0, [], 0)]
def mt_54 : ix_M := (⟨"CryGorge$Planner", "judge", "()V"⟩, prog_8_method_7_code, 3, (Option.none : Option FieldType), 1, 6, mo_54, [])
def mo_55 : List ix_Op := [(0, 1, .aload_n 0, 0, 0, 0, [], 0), (1, 1, .iconst 0, 0, 0, 0, [], 0), (2, 1, .iload_n 1, 0, 0, 0, [], 0), (3, 1, .aload_n 0, 0, 0, 0, [], 0), (4, 3, .getfield 9, 7, 0, 0, [], 0), (7, 1, .arraylength, 0, 0, 0, [], 0), (8, 3, .invokestatic 15, 0, 5, 2, [], 0), (11, 3, .invokestatic 21, 0, 4, 2, [], 0), (14, 3, .putfield 24, 7, 1, 0, [], 0), (17, 1, .aload_n 0, 0, 0, 0, [], 0), (18, 1, .iconst 0, 0, 0, 0, [], 0), (19, 3, .putfield 28, 7, 2, 0, [], 0), (22, 1, .aload_n 0, 0, 0, 0, [], 0), (23, 1, .iconst 0, 0, 0, 0, [], 0), (24, 3, .putfield 31, 7, 3, 0, [], 0), (27, 1, .aload_n 0, 0, 0, 0, [], 0), (28, 1, .iconst 0, 0, 0, 0, [], 0), (29, 3, .putfield 34, 7, 4, 0, [], 0), (32, 1, .aload_n 0, 0, 0, 0, [], 0), (33, 1, .iconst 0, 0, 0, 0, [], 0), (34, 3, .putfield 37, 7, 5, 0, [], 0), (37, 1, .aload_n 0, 0, 0, 0, [], 0), (38, 1, .iconst (-1), 0, 0, 0, [], 0), (39, 3, .putfield 40, 7, 6, 0, [], 0), (42, 1, .return_, 0, 0, 0, [], 0)]
def mt_55 : ix_M := (⟨"CryGorge$Reader", "start", "(I)V"⟩, prog_9_method_2_code, 2, (Option.none : Option FieldType), 2, 7, mo_55, [])
def mo_56 : List ix_Op := [(0, 1, .aload_n 0, 0, 0, 0, [], 0), (1, 3, .getfield 37, 7, 5, 0, [], 0), (4, 3, .ifCond .eq 7, 5, 0, 0, [], 0), (7, 1, .iconst 1, 0, 0, 0, [], 0), (8, 3, .goto 4, 6, 0, 0, [], 0), (11, 1, .iconst 0, 0, 0, 0, [], 0), (12, 1, .ireturn, 1, 0, 0, [], 0)]
def mt_56 : ix_M := (⟨"CryGorge$Reader", "failed", "()Z"⟩, prog_9_method_3_code, 1, (Option.some FieldType.boolean), 1, 7, mo_56, [])
def mo_57 : List ix_Op := [(0, 1, .aload_n 0, 0, 0, 0, [], 0), (1, 3, .getfield 37, 7, 5, 0, [], 0), (4, 1, .ireturn, 0, 0, 0, [], 0)]
def mt_57 : ix_M := (⟨"CryGorge$Reader", "kind", "()I"⟩, prog_9_method_4_code, 1, (Option.some FieldType.int), 1, 7, mo_57, [])
def mo_58 : List ix_Op := [(0, 1, .aload_n 0, 0, 0, 0, [], 0), (1, 3, .getfield 40, 7, 6, 0, [], 0), (4, 1, .ireturn, 0, 0, 0, [], 0)]
def mt_58 : ix_M := (⟨"CryGorge$Reader", "place", "()I"⟩, prog_9_method_5_code, 1, (Option.some FieldType.int), 1, 7, mo_58, [])
def mo_59 : List ix_Op := [(0, 1, .aload_n 0, 0, 0, 0, [], 0), (1, 3, .getfield 37, 7, 5, 0, [], 0), (4, 3, .ifCond .ne 16, 10, 0, 0, [], 0), (7, 1, .aload_n 0, 0, 0, 0, [], 0), (8, 1, .iload_n 1, 0, 0, 0, [], 0), (9, 3, .putfield 37, 7, 5, 0, [], 0), (12, 1, .aload_n 0, 0, 0, 0, [], 0), (13, 1, .aload_n 0, 0, 0, 0, [], 0), (14, 3, .getfield 31, 7, 3, 0, [], 0), (17, 3, .putfield 40, 7, 6, 0, [], 0), (20, 1, .return_, 0, 0, 0, [], 0)]
def mt_59 : ix_M := (⟨"CryGorge$Reader", "fail", "(I)V"⟩, prog_9_method_6_code, 2, (Option.none : Option FieldType), 2, 7, mo_59, [])
def mo_60 : List ix_Op := [(0, 1, .aload_n 0, 0, 0, 0, [], 0), (1, 3, .getfield 28, 7, 2, 0, [], 0), (4, 1, .aload_n 0, 0, 0, 0, [], 0), (5, 3, .getfield 24, 7, 1, 0, [], 0), (8, 3, .if_icmp .ge 30, 19, 0, 0, [], 0), (11, 1, .aload_n 0, 0, 0, 0, [], 0), (12, 3, .getfield 9, 7, 0, 0, [], 0), (15, 1, .aload_n 0, 0, 0, 0, [], 0), (16, 3, .getfield 28, 7, 2, 0, [], 0), (19, 1, .baload, 0, 0, 0, [], 0), (20, 2, .bipush 32, 0, 0, 0, [], 0), (22, 3, .if_icmp .ne 16, 19, 0, 0, [], 0), (25, 1, .aload_n 0, 0, 0, 0, [], 0), (26, 1, .dup, 0, 0, 0, [], 0), (27, 3, .getfield 28, 7, 2, 0, [], 0), (30, 1, .iconst 1, 0, 0, 0, [], 0), (31, 1, .iadd, 0, 0, 0, [], 0), (32, 3, .putfield 28, 7, 2, 0, [], 0), (35, 3, .goto (-35), 0, 0, 0, [], 0), (38, 1, .aload_n 0, 0, 0, 0, [], 0), (39, 1, .aload_n 0, 0, 0, 0, [], 0), (40, 3, .getfield 28, 7, 2, 0, [], 0), (43, 3, .putfield 31, 7, 3, 0, [], 0), (46, 1, .aload_n 0, 0, 0, 0, [], 0), (47, 3, .getfield 28, 7, 2, 0, [], 0), (50, 1, .aload_n 0, 0, 0, 0, [], 0), (51, 3, .getfield 24, 7, 1, 0, [], 0), (54, 3, .if_icmp .ge 19, 36, 0, 0, [], 0), (57, 1, .aload_n 0, 0, 0, 0, [], 0), (58, 3, .getfield 9, 7, 0, 0, [], 0), (61, 1, .aload_n 0, 0, 0, 0, [], 0), (62, 3, .getfield 28, 7, 2, 0, [], 0), (65, 1, .baload, 0, 0, 0, [], 0), (66, 3, .sipush 255, 0, 0, 0, [], 0), (69, 1, .iand, 0, 0, 0, [], 0), (70, 3, .goto 4, 37, 0, 0, [], 0), (73, 1, .iconst (-1), 0, 0, 0, [], 0), (74, 1, .ireturn, 0, 0, 0, [], 0)]
def mt_60 : ix_M := (⟨"CryGorge$Reader", "next", "()I"⟩, prog_9_method_7_code, 1, (Option.some FieldType.int), 1, 7, mo_60, [])
def mo_61 : List ix_Op := [(0, 1, .aload_n 0, 0, 0, 0, [], 0), (1, 3, .invokevirtual 43, 56, 0, 1, [7], 0), (4, 3, .ifCond .ne 15, 9, 0, 0, [], 0), (7, 1, .aload_n 0, 0, 0, 0, [], 0), (8, 3, .invokevirtual 47, 60, 0, 1, [7], 0), (11, 1, .iconst (-1), 0, 0, 0, [], 0), (12, 3, .if_icmp .eq 7, 9, 0, 0, [], 0), (15, 1, .iconst 1, 0, 0, 0, [], 0), (16, 3, .goto 4, 10, 0, 0, [], 0), (19, 1, .iconst 0, 0, 0, 0, [], 0), (20, 1, .ireturn, 1, 0, 0, [], 0)]
def mt_61 : ix_M := (⟨"CryGorge$Reader", "more", "()Z"⟩, prog_9_method_8_code, 1, (Option.some FieldType.boolean), 1, 7, mo_61, [])
def mo_62 : List ix_Op := [(0, 1, .aload_n 0, 0, 0, 0, [], 0), (1, 3, .invokevirtual 47, 60, 0, 1, [7], 0), (4, 1, .iload_n 1, 0, 0, 0, [], 0), (5, 3, .if_icmp .eq 5, 6, 0, 0, [], 0), (8, 1, .iconst 0, 0, 0, 0, [], 0), (9, 1, .ireturn, 1, 0, 0, [], 0), (10, 1, .aload_n 0, 0, 0, 0, [], 0), (11, 1, .dup, 0, 0, 0, [], 0), (12, 3, .getfield 28, 7, 2, 0, [], 0), (15, 1, .iconst 1, 0, 0, 0, [], 0), (16, 1, .iadd, 0, 0, 0, [], 0), (17, 3, .putfield 28, 7, 2, 0, [], 0), (20, 1, .iconst 1, 0, 0, 0, [], 0), (21, 1, .ireturn, 1, 0, 0, [], 0)]
def mt_62 : ix_M := (⟨"CryGorge$Reader", "take", "(C)Z"⟩, prog_9_method_9_code, 2, (Option.some FieldType.boolean), 2, 7, mo_62, [])
def mo_63 : List ix_Op := [(0, 1, .aload_n 0, 0, 0, 0, [], 0), (1, 3, .invokevirtual 47, 60, 0, 1, [7], 0), (4, 1, .iload_n 1, 0, 0, 0, [], 0), (5, 3, .if_icmp .ne 16, 11, 0, 0, [], 0), (8, 1, .aload_n 0, 0, 0, 0, [], 0), (9, 1, .dup, 0, 0, 0, [], 0), (10, 3, .getfield 28, 7, 2, 0, [], 0), (13, 1, .iconst 1, 0, 0, 0, [], 0), (14, 1, .iadd, 0, 0, 0, [], 0), (15, 3, .putfield 28, 7, 2, 0, [], 0), (18, 3, .goto 8, 14, 0, 0, [], 0), (21, 1, .aload_n 0, 0, 0, 0, [], 0), (22, 1, .iconst 1, 0, 0, 0, [], 0), (23, 3, .invokevirtual 51, 59, 0, 2, [7], 0), (26, 1, .return_, 0, 0, 0, [], 0)]
def mt_63 : ix_M := (⟨"CryGorge$Reader", "need", "(C)V"⟩, prog_9_method_10_code, 2, (Option.none : Option FieldType), 2, 7, mo_63, [])
def mo_64 : List ix_Op := [(0, 1, .aload_n 0, 0, 0, 0, [], 0), (1, 3, .invokevirtual 47, 60, 0, 1, [7], 0), (4, 1, .pop, 0, 0, 0, [], 0), (5, 1, .iconst 0, 0, 0, 0, [], 0), (6, 1, .istore_n 3, 0, 0, 0, [], 0), (7, 1, .aload_n 0, 0, 0, 0, [], 0), (8, 3, .getfield 28, 7, 2, 0, [], 0), (11, 1, .aload_n 0, 0, 0, 0, [], 0), (12, 3, .getfield 24, 7, 1, 0, [], 0), (15, 3, .if_icmp .ge 54, 38, 0, 0, [], 0), (18, 1, .aload_n 0, 0, 0, 0, [], 0), (19, 3, .getfield 9, 7, 0, 0, [], 0), (22, 1, .aload_n 0, 0, 0, 0, [], 0), (23, 3, .getfield 28, 7, 2, 0, [], 0), (26, 1, .baload, 0, 0, 0, [], 0), (27, 3, .invokestatic 55, 69, 1, 1, [], 0), (30, 3, .ifCond .eq 39, 38, 0, 0, [], 0), (33, 1, .iload_n 3, 0, 0, 0, [], 0), (34, 2, .bipush 10, 0, 0, 0, [], 0), (36, 1, .imul, 0, 0, 0, [], 0), (37, 1, .aload_n 0, 0, 0, 0, [], 0), (38, 3, .getfield 9, 7, 0, 0, [], 0), (41, 1, .aload_n 0, 0, 0, 0, [], 0), (42, 3, .getfield 28, 7, 2, 0, [], 0), (45, 1, .baload, 0, 0, 0, [], 0), (46, 2, .bipush 48, 0, 0, 0, [], 0), (48, 1, .isub, 0, 0, 0, [], 0), (49, 1, .iadd, 0, 0, 0, [], 0), (50, 2, .ldc 59, 0, 0, 0, [], 1000000), (52, 3, .invokestatic 15, 0, 5, 2, [], 0), (55, 1, .istore_n 3, 0, 0, 0, [], 0), (56, 1, .aload_n 0, 0, 0, 0, [], 0), (57, 1, .dup, 0, 0, 0, [], 0), (58, 3, .getfield 28, 7, 2, 0, [], 0), (61, 1, .iconst 1, 0, 0, 0, [], 0), (62, 1, .iadd, 0, 0, 0, [], 0), (63, 3, .putfield 28, 7, 2, 0, [], 0), (66, 3, .goto (-59), 5, 0, 0, [], 0), (69, 1, .aload_n 0, 0, 0, 0, [], 0), (70, 3, .getfield 28, 7, 2, 0, [], 0), (73, 1, .aload_n 0, 0, 0, 0, [], 0), (74, 3, .getfield 31, 7, 3, 0, [], 0), (77, 3, .if_icmp .ne 11, 47, 0, 0, [], 0), (80, 1, .aload_n 0, 0, 0, 0, [], 0), (81, 1, .iconst 1, 0, 0, 0, [], 0), (82, 3, .invokevirtual 51, 59, 0, 2, [7], 0), (85, 3, .goto 18, 56, 0, 0, [], 0), (88, 1, .iload_n 3, 0, 0, 0, [], 0), (89, 1, .iload_n 1, 0, 0, 0, [], 0), (90, 3, .if_icmp .lt 8, 53, 0, 0, [], 0), (93, 1, .iload_n 3, 0, 0, 0, [], 0), (94, 1, .iload_n 2, 0, 0, 0, [], 0), (95, 3, .if_icmp .le 8, 56, 0, 0, [], 0), (98, 1, .aload_n 0, 0, 0, 0, [], 0), (99, 1, .iconst 2, 0, 0, 0, [], 0), (100, 3, .invokevirtual 51, 59, 0, 2, [7], 0), (103, 1, .iload_n 3, 0, 0, 0, [], 0), (104, 1, .ireturn, 0, 0, 0, [], 0)]
def mt_64 : ix_M := (⟨"CryGorge$Reader", "number", "(II)I"⟩, prog_9_method_11_code, 4, (Option.some FieldType.int), 3, 7, mo_64, [])
def mo_65 : List ix_Op := [(0, 1, .aload_n 0, 0, 0, 0, [], 0), (1, 3, .invokevirtual 47, 60, 0, 1, [7], 0), (4, 1, .pop, 0, 0, 0, [], 0), (5, 1, .aload_n 0, 0, 0, 0, [], 0), (6, 3, .getfield 28, 7, 2, 0, [], 0), (9, 1, .aload_n 0, 0, 0, 0, [], 0), (10, 3, .getfield 24, 7, 1, 0, [], 0), (13, 3, .if_icmp .ge 44, 29, 0, 0, [], 0), (16, 1, .aload_n 0, 0, 0, 0, [], 0), (17, 3, .getfield 9, 7, 0, 0, [], 0), (20, 1, .aload_n 0, 0, 0, 0, [], 0), (21, 3, .getfield 28, 7, 2, 0, [], 0), (24, 1, .baload, 0, 0, 0, [], 0), (25, 2, .bipush 97, 0, 0, 0, [], 0), (27, 3, .if_icmp .lt 30, 29, 0, 0, [], 0), (30, 1, .aload_n 0, 0, 0, 0, [], 0), (31, 3, .getfield 9, 7, 0, 0, [], 0), (34, 1, .aload_n 0, 0, 0, 0, [], 0), (35, 3, .getfield 28, 7, 2, 0, [], 0), (38, 1, .baload, 0, 0, 0, [], 0), (39, 2, .bipush 122, 0, 0, 0, [], 0), (41, 3, .if_icmp .gt 16, 29, 0, 0, [], 0), (44, 1, .aload_n 0, 0, 0, 0, [], 0), (45, 1, .dup, 0, 0, 0, [], 0), (46, 3, .getfield 28, 7, 2, 0, [], 0), (49, 1, .iconst 1, 0, 0, 0, [], 0), (50, 1, .iadd, 0, 0, 0, [], 0), (51, 3, .putfield 28, 7, 2, 0, [], 0), (54, 3, .goto (-49), 3, 0, 0, [], 0), (57, 1, .return_, 0, 0, 0, [], 0)]
def mt_65 : ix_M := (⟨"CryGorge$Reader", "word", "()V"⟩, prog_9_method_12_code, 1, (Option.none : Option FieldType), 1, 7, mo_65, [])
def mo_66 : List ix_Op := [(0, 1, .aload_n 0, 0, 0, 0, [], 0), (1, 3, .getfield 28, 7, 2, 0, [], 0), (4, 1, .aload_n 0, 0, 0, 0, [], 0), (5, 3, .getfield 31, 7, 3, 0, [], 0), (8, 1, .isub, 0, 0, 0, [], 0), (9, 1, .aload_n 1, 0, 0, 0, [], 0), (10, 3, .invokevirtual 60, 900, 0, 1, [99], 0), (13, 3, .if_icmp .eq 5, 10, 0, 0, [], 0), (16, 1, .iconst 0, 0, 0, 0, [], 0), (17, 1, .ireturn, 1, 0, 0, [], 0), (18, 1, .iconst 0, 0, 0, 0, [], 0), (19, 1, .istore_n 2, 0, 0, 0, [], 0), (20, 1, .iload_n 2, 0, 0, 0, [], 0), (21, 1, .aload_n 1, 0, 0, 0, [], 0), (22, 3, .invokevirtual 60, 900, 0, 1, [99], 0), (25, 3, .if_icmp .ge 30, 31, 0, 0, [], 0), (28, 1, .aload_n 0, 0, 0, 0, [], 0), (29, 3, .getfield 9, 7, 0, 0, [], 0), (32, 1, .aload_n 0, 0, 0, 0, [], 0), (33, 3, .getfield 31, 7, 3, 0, [], 0), (36, 1, .iload_n 2, 0, 0, 0, [], 0), (37, 1, .iadd, 0, 0, 0, [], 0), (38, 1, .baload, 0, 0, 0, [], 0), (39, 1, .aload_n 1, 0, 0, 0, [], 0), (40, 1, .iload_n 2, 0, 0, 0, [], 0), (41, 3, .invokevirtual 64, 901, 0, 2, [99], 0), (44, 3, .if_icmp .eq 5, 29, 0, 0, [], 0), (47, 1, .iconst 0, 0, 0, 0, [], 0), (48, 1, .ireturn, 1, 0, 0, [], 0), (49, 3, .iinc 2 1, 0, 0, 0, [], 0), (52, 3, .goto (-32), 12, 0, 0, [], 0), (55, 1, .iconst 1, 0, 0, 0, [], 0), (56, 1, .ireturn, 1, 0, 0, [], 0)]
def mt_66 : ix_M := (⟨"CryGorge$Reader", "wordIs", "(Ljava/lang/String;)Z"⟩, prog_9_method_13_code, 3, (Option.some FieldType.boolean), 2, 7, mo_66, [])
def mo_67 : List ix_Op := [(0, 1, .aload_n 0, 0, 0, 0, [], 0), (1, 3, .getfield 34, 7, 4, 0, [], 0), (4, 2, .bipush 6, 0, 0, 0, [], 0), (6, 3, .if_icmp .lt 8, 7, 0, 0, [], 0), (9, 1, .aload_n 0, 0, 0, 0, [], 0), (10, 1, .iconst 3, 0, 0, 0, [], 0), (11, 3, .invokevirtual 51, 59, 0, 2, [7], 0), (14, 1, .aload_n 0, 0, 0, 0, [], 0), (15, 1, .dup, 0, 0, 0, [], 0), (16, 3, .getfield 34, 7, 4, 0, [], 0), (19, 1, .iconst 1, 0, 0, 0, [], 0), (20, 1, .iadd, 0, 0, 0, [], 0), (21, 3, .putfield 34, 7, 4, 0, [], 0), (24, 1, .return_, 0, 0, 0, [], 0)]
def mt_67 : ix_M := (⟨"CryGorge$Reader", "enter", "()V"⟩, prog_9_method_14_code, 1, (Option.none : Option FieldType), 1, 7, mo_67, [])
def mo_68 : List ix_Op := [(0, 1, .aload_n 0, 0, 0, 0, [], 0), (1, 1, .dup, 0, 0, 0, [], 0), (2, 3, .getfield 34, 7, 4, 0, [], 0), (5, 1, .iconst 1, 0, 0, 0, [], 0), (6, 1, .isub, 0, 0, 0, [], 0), (7, 3, .putfield 34, 7, 4, 0, [], 0), (10, 1, .return_, 0, 0, 0, [], 0)]
def mt_68 : ix_M := (⟨"CryGorge$Reader", "leave", "()V"⟩, prog_9_method_15_code, 1, (Option.none : Option FieldType), 1, 7, mo_68, [])
def mo_69 : List ix_Op := [(0, 1, .iload_n 0, 0, 0, 0, [], 0), (1, 2, .bipush 48, 0, 0, 0, [], 0), (3, 3, .if_icmp .lt 13, 8, 0, 0, [], 0), (6, 1, .iload_n 0, 0, 0, 0, [], 0), (7, 2, .bipush 57, 0, 0, 0, [], 0), (9, 3, .if_icmp .gt 7, 8, 0, 0, [], 0), (12, 1, .iconst 1, 0, 0, 0, [], 0), (13, 3, .goto 4, 9, 0, 0, [], 0), (16, 1, .iconst 0, 0, 0, 0, [], 0), (17, 1, .ireturn, 1, 0, 0, [], 0)]
def mt_69 : ix_M := (⟨"CryGorge$Reader", "isDigit", "(I)Z"⟩, prog_9_method_16_code, 1, (Option.some FieldType.boolean), 1, 7, mo_69, [])
def mo_70 : List ix_Op := [(0, 1, .aload_n 1, 0, 0, 0, [], 0), (1, 3, .getfield 23, 9, 1, 1, [], 0), (4, 1, .iload_n 2, 0, 0, 0, [], 0), (5, 1, .iaload, 0, 0, 0, [], 0), (6, 2, .istore 5, 0, 0, 0, [], 0), (8, 2, .iload 5, 0, 0, 0, [], 0), (10, 3, .ifCond .ne 5, 9, 0, 0, [], 0), (13, 1, .iconst 0, 0, 0, 0, [], 0), (14, 1, .ireturn, 0, 0, 0, [], 0), (15, 1, .aload_n 0, 0, 0, 0, [], 0), (16, 3, .getfield 19, 8, 1, 0, [], 0), (19, 3, .getfield 28, 5, 0, 1, [], 0), (22, 1, .iconst 0, 0, 0, 0, [], 0), (23, 1, .aload_n 0, 0, 0, 0, [], 0), (24, 3, .getfield 15, 8, 0, 0, [], 0), (27, 3, .getfield 33, 4, 0, 1, [], 0), (30, 1, .iload_n 3, 0, 0, 0, [], 0), (31, 1, .iaload, 0, 0, 0, [], 0), (32, 1, .iastore, 0, 0, 0, [], 0), (33, 1, .aload_n 0, 0, 0, 0, [], 0), (34, 3, .getfield 19, 8, 1, 0, [], 0), (37, 3, .getfield 28, 5, 0, 1, [], 0), (40, 1, .iconst 1, 0, 0, 0, [], 0), (41, 2, .iload 4, 0, 0, 0, [], 0), (43, 1, .iastore, 0, 0, 0, [], 0), (44, 1, .aload_n 0, 0, 0, 0, [], 0), (45, 3, .getfield 19, 8, 1, 0, [], 0), (48, 3, .getfield 28, 5, 0, 1, [], 0), (51, 1, .iconst 2, 0, 0, 0, [], 0), (52, 1, .aload_n 1, 0, 0, 0, [], 0), (53, 1, .iload_n 3, 0, 0, 0, [], 0), (54, 3, .invokevirtual 38, 84, 0, 2, [9], 0), (57, 1, .iastore, 0, 0, 0, [], 0), (58, 1, .aload_n 0, 0, 0, 0, [], 0), (59, 3, .getfield 19, 8, 1, 0, [], 0), (62, 3, .getfield 28, 5, 0, 1, [], 0), (65, 1, .iconst 3, 0, 0, 0, [], 0), (66, 2, .iload 5, 0, 0, 0, [], 0), (68, 1, .iastore, 0, 0, 0, [], 0), (69, 1, .aload_n 0, 0, 0, 0, [], 0), (70, 3, .getfield 19, 8, 1, 0, [], 0), (73, 3, .getfield 28, 5, 0, 1, [], 0), (76, 1, .iconst 4, 0, 0, 0, [], 0), (77, 1, .aload_n 0, 0, 0, 0, [], 0), (78, 3, .getfield 15, 8, 0, 0, [], 0), (81, 3, .getfield 42, 4, 2, 1, [], 0), (84, 1, .iload_n 2, 0, 0, 0, [], 0), (85, 1, .iaload, 0, 0, 0, [], 0), (86, 1, .iastore, 0, 0, 0, [], 0), (87, 1, .aload_n 0, 0, 0, 0, [], 0), (88, 3, .getfield 19, 8, 1, 0, [], 0), (91, 3, .getfield 28, 5, 0, 1, [], 0), (94, 1, .iconst 5, 0, 0, 0, [], 0), (95, 1, .aload_n 1, 0, 0, 0, [], 0), (96, 3, .getfield 45, 9, 2, 1, [], 0), (99, 1, .iload_n 2, 0, 0, 0, [], 0), (100, 1, .iaload, 0, 0, 0, [], 0), (101, 1, .iastore, 0, 0, 0, [], 0), (102, 1, .aload_n 0, 0, 0, 0, [], 0), (103, 3, .getfield 19, 8, 1, 0, [], 0), (106, 3, .getfield 28, 5, 0, 1, [], 0), (109, 2, .bipush 6, 0, 0, 0, [], 0), (111, 1, .iload_n 3, 0, 0, 0, [], 0), (112, 1, .iastore, 0, 0, 0, [], 0), (113, 1, .aload_n 0, 0, 0, 0, [], 0), (114, 3, .getfield 19, 8, 1, 0, [], 0), (117, 3, .getfield 28, 5, 0, 1, [], 0), (120, 2, .bipush 7, 0, 0, 0, [], 0), (122, 1, .aload_n 1, 0, 0, 0, [], 0), (123, 3, .getfield 48, 9, 6, 1, [], 0), (126, 1, .iastore, 0, 0, 0, [], 0), (127, 1, .aload_n 0, 0, 0, 0, [], 0), (128, 3, .getfield 19, 8, 1, 0, [], 0), (131, 3, .invokevirtual 52, 46, 0, 1, [5], 0), (134, 2, .iload 5, 0, 0, 0, [], 0), (136, 3, .invokestatic 56, 0, 5, 2, [], 0), (139, 1, .ireturn, 0, 0, 0, [], 0)]
def mt_70 : ix_M := (⟨"CryGorge$Seasons", "lossIn", "(LCryGorge$State;III)I"⟩, prog_10_method_2_code, 6, (Option.some FieldType.int), 5, 8, mo_70, [])
def mo_71 : List ix_Op := [(0, 1, .aload_n 1, 0, 0, 0, [], 0), (1, 3, .getfield 62, 9, 3, 1, [], 0), (4, 1, .iload_n 2, 0, 0, 0, [], 0), (5, 1, .iaload, 0, 0, 0, [], 0), (6, 1, .istore_n 3, 0, 0, 0, [], 0), (7, 1, .aload_n 1, 0, 0, 0, [], 0), (8, 3, .getfield 23, 9, 1, 1, [], 0), (11, 1, .iload_n 2, 0, 0, 0, [], 0), (12, 1, .iaload, 0, 0, 0, [], 0), (13, 2, .istore 4, 0, 0, 0, [], 0), (15, 1, .iload_n 3, 0, 0, 0, [], 0), (16, 2, .bipush (-2), 0, 0, 0, [], 0), (18, 3, .if_icmp .ne 5, 15, 0, 0, [], 0), (21, 1, .iconst 0, 0, 0, 0, [], 0), (22, 1, .ireturn, 0, 0, 0, [], 0), (23, 1, .aload_n 0, 0, 0, 0, [], 0), (24, 3, .getfield 15, 8, 0, 0, [], 0), (27, 1, .iload_n 3, 0, 0, 0, [], 0), (28, 3, .invokevirtual 65, 25, 0, 2, [4], 0), (31, 3, .ifCond .ne 11, 26, 0, 0, [], 0), (34, 2, .iload 4, 0, 0, 0, [], 0), (36, 2, .iload 4, 0, 0, 0, [], 0), (38, 1, .iconst 2, 0, 0, 0, [], 0), (39, 1, .idiv, 0, 0, 0, [], 0), (40, 1, .isub, 0, 0, 0, [], 0), (41, 1, .ireturn, 0, 0, 0, [], 0), (42, 1, .aload_n 0, 0, 0, 0, [], 0), (43, 1, .aload_n 1, 0, 0, 0, [], 0), (44, 1, .iload_n 2, 0, 0, 0, [], 0), (45, 1, .iload_n 3, 0, 0, 0, [], 0), (46, 1, .aload_n 1, 0, 0, 0, [], 0), (47, 1, .iload_n 3, 0, 0, 0, [], 0), (48, 3, .invokevirtual 69, 77, 0, 2, [9], 0), (51, 3, .invokestatic 72, 259, 1, 1, [], 0), (54, 1, .iconst 1, 0, 0, 0, [], 0), (55, 1, .isub, 0, 0, 0, [], 0), (56, 3, .invokevirtual 77, 70, 0, 5, [8], 0), (59, 1, .ireturn, 0, 0, 0, [], 0)]
def mt_71 : ix_M := (⟨"CryGorge$Seasons", "loss", "(LCryGorge$State;I)I"⟩, prog_10_method_3_code, 5, (Option.some FieldType.int), 3, 8, mo_71, [])
def mo_72 : List ix_Op := [(0, 1, .iconst 0, 0, 0, 0, [], 0), (1, 1, .istore_n 2, 0, 0, 0, [], 0), (2, 1, .iload_n 2, 0, 0, 0, [], 0), (3, 1, .aload_n 0, 0, 0, 0, [], 0), (4, 3, .getfield 15, 8, 0, 0, [], 0), (7, 3, .getfield 81, 4, 7, 1, [], 0), (10, 3, .if_icmp .ge 21, 17, 0, 0, [], 0), (13, 1, .aload_n 0, 0, 0, 0, [], 0), (14, 3, .getfield 9, 8, 2, 0, [], 0), (17, 1, .iload_n 2, 0, 0, 0, [], 0), (18, 1, .aload_n 0, 0, 0, 0, [], 0), (19, 1, .aload_n 1, 0, 0, 0, [], 0), (20, 1, .iload_n 2, 0, 0, 0, [], 0), (21, 3, .invokevirtual 84, 71, 0, 3, [8], 0), (24, 1, .iastore, 0, 0, 0, [], 0), (25, 3, .iinc 2 1, 0, 0, 0, [], 0), (28, 3, .goto (-26), 2, 0, 0, [], 0), (31, 1, .iconst 0, 0, 0, 0, [], 0), (32, 1, .istore_n 2, 0, 0, 0, [], 0), (33, 1, .iload_n 2, 0, 0, 0, [], 0), (34, 1, .aload_n 0, 0, 0, 0, [], 0), (35, 3, .getfield 15, 8, 0, 0, [], 0), (38, 3, .getfield 81, 4, 7, 1, [], 0), (41, 3, .if_icmp .ge 45, 51, 0, 0, [], 0), (44, 1, .aload_n 1, 0, 0, 0, [], 0), (45, 3, .getfield 23, 9, 1, 1, [], 0), (48, 1, .iload_n 2, 0, 0, 0, [], 0), (49, 1, .dup2, 0, 0, 0, [], 0), (50, 1, .iaload, 0, 0, 0, [], 0), (51, 1, .aload_n 0, 0, 0, 0, [], 0), (52, 3, .getfield 9, 8, 2, 0, [], 0), (55, 1, .iload_n 2, 0, 0, 0, [], 0), (56, 1, .iaload, 0, 0, 0, [], 0), (57, 1, .isub, 0, 0, 0, [], 0), (58, 1, .iastore, 0, 0, 0, [], 0), (59, 1, .aload_n 1, 0, 0, 0, [], 0), (60, 3, .getfield 62, 9, 3, 1, [], 0), (63, 1, .iload_n 2, 0, 0, 0, [], 0), (64, 1, .iaload, 0, 0, 0, [], 0), (65, 2, .bipush (-2), 0, 0, 0, [], 0), (67, 3, .if_icmp .eq 13, 49, 0, 0, [], 0), (70, 1, .aload_n 1, 0, 0, 0, [], 0), (71, 3, .getfield 45, 9, 2, 1, [], 0), (74, 1, .iload_n 2, 0, 0, 0, [], 0), (75, 1, .dup2, 0, 0, 0, [], 0), (76, 1, .iaload, 0, 0, 0, [], 0), (77, 1, .iconst 1, 0, 0, 0, [], 0), (78, 1, .iadd, 0, 0, 0, [], 0), (79, 1, .iastore, 0, 0, 0, [], 0), (80, 3, .iinc 2 1, 0, 0, 0, [], 0), (83, 3, .goto (-50), 19, 0, 0, [], 0), (86, 1, .aload_n 1, 0, 0, 0, [], 0), (87, 1, .dup, 0, 0, 0, [], 0), (88, 3, .getfield 48, 9, 6, 1, [], 0), (91, 1, .iconst 1, 0, 0, 0, [], 0), (92, 1, .iadd, 0, 0, 0, [], 0), (93, 3, .putfield 48, 9, 6, 1, [], 0), (96, 1, .return_, 0, 0, 0, [], 0)]
def mt_72 : ix_M := (⟨"CryGorge$Seasons", "pass", "(LCryGorge$State;)V"⟩, prog_10_method_4_code, 3, (Option.none : Option FieldType), 2, 8, mo_72, [])
def mo_73 : List ix_Op := [(0, 1, .iconst 0, 0, 0, 0, [], 0), (1, 1, .istore_n 1, 0, 0, 0, [], 0), (2, 1, .iload_n 1, 0, 0, 0, [], 0), (3, 2, .bipush 8, 0, 0, 0, [], 0), (5, 3, .if_icmp .ge 53, 33, 0, 0, [], 0), (8, 1, .aload_n 0, 0, 0, 0, [], 0), (9, 3, .getfield 9, 9, 1, 0, [], 0), (12, 1, .iload_n 1, 0, 0, 0, [], 0), (13, 1, .iload_n 1, 0, 0, 0, [], 0), (14, 1, .aload_n 0, 0, 0, 0, [], 0), (15, 3, .getfield 21, 9, 0, 0, [], 0), (18, 3, .getfield 28, 4, 7, 1, [], 0), (21, 3, .if_icmp .ge 15, 19, 0, 0, [], 0), (24, 1, .aload_n 0, 0, 0, 0, [], 0), (25, 3, .getfield 21, 9, 0, 0, [], 0), (28, 3, .getfield 34, 4, 3, 1, [], 0), (31, 1, .iload_n 1, 0, 0, 0, [], 0), (32, 1, .iaload, 0, 0, 0, [], 0), (33, 3, .goto 4, 20, 0, 0, [], 0), (36, 1, .iconst 0, 0, 0, 0, [], 0), (37, 1, .iastore, 0, 0, 0, [], 0), (38, 1, .aload_n 0, 0, 0, 0, [], 0), (39, 3, .getfield 15, 9, 2, 0, [], 0), (42, 1, .iload_n 1, 0, 0, 0, [], 0), (43, 1, .iconst 0, 0, 0, 0, [], 0), (44, 1, .iastore, 0, 0, 0, [], 0), (45, 1, .aload_n 0, 0, 0, 0, [], 0), (46, 3, .getfield 18, 9, 3, 0, [], 0), (49, 1, .iload_n 1, 0, 0, 0, [], 0), (50, 1, .iconst (-1), 0, 0, 0, [], 0), (51, 1, .iastore, 0, 0, 0, [], 0), (52, 3, .iinc 1 1, 0, 0, 0, [], 0), (55, 3, .goto (-53), 2, 0, 0, [], 0), (58, 1, .aload_n 0, 0, 0, 0, [], 0), (59, 1, .iconst 0, 0, 0, 0, [], 0), (60, 3, .putfield 35, 9, 4, 0, [], 0), (63, 1, .aload_n 0, 0, 0, 0, [], 0), (64, 1, .aload_n 0, 0, 0, 0, [], 0), (65, 3, .getfield 21, 9, 0, 0, [], 0), (68, 3, .getfield 38, 4, 9, 1, [], 0), (71, 3, .putfield 41, 9, 5, 0, [], 0), (74, 1, .aload_n 0, 0, 0, 0, [], 0), (75, 1, .iconst 0, 0, 0, 0, [], 0), (76, 3, .putfield 44, 9, 6, 0, [], 0), (79, 1, .return_, 0, 0, 0, [], 0)]
def mt_73 : ix_M := (⟨"CryGorge$State", "begin", "()V"⟩, prog_11_method_2_code, 2, (Option.none : Option FieldType), 1, 9, mo_73, [])
def mo_74 : List ix_Op := [(0, 1, .aload_n 1, 0, 0, 0, [], 0), (1, 3, .getfield 9, 9, 1, 0, [], 0), (4, 1, .iconst 0, 0, 0, 0, [], 0), (5, 1, .aload_n 0, 0, 0, 0, [], 0), (6, 3, .getfield 9, 9, 1, 0, [], 0), (9, 1, .iconst 0, 0, 0, 0, [], 0), (10, 2, .bipush 8, 0, 0, 0, [], 0), (12, 3, .invokestatic 47, 0, 7, 5, [], 0), (15, 1, .aload_n 1, 0, 0, 0, [], 0), (16, 3, .getfield 15, 9, 2, 0, [], 0), (19, 1, .iconst 0, 0, 0, 0, [], 0), (20, 1, .aload_n 0, 0, 0, 0, [], 0), (21, 3, .getfield 15, 9, 2, 0, [], 0), (24, 1, .iconst 0, 0, 0, 0, [], 0), (25, 2, .bipush 8, 0, 0, 0, [], 0), (27, 3, .invokestatic 47, 0, 7, 5, [], 0), (30, 1, .aload_n 1, 0, 0, 0, [], 0), (31, 3, .getfield 18, 9, 3, 0, [], 0), (34, 1, .iconst 0, 0, 0, 0, [], 0), (35, 1, .aload_n 0, 0, 0, 0, [], 0), (36, 3, .getfield 18, 9, 3, 0, [], 0), (39, 1, .iconst 0, 0, 0, 0, [], 0), (40, 2, .bipush 8, 0, 0, 0, [], 0), (42, 3, .invokestatic 47, 0, 7, 5, [], 0), (45, 1, .aload_n 0, 0, 0, 0, [], 0), (46, 1, .aload_n 1, 0, 0, 0, [], 0), (47, 3, .getfield 35, 9, 4, 0, [], 0), (50, 3, .putfield 35, 9, 4, 0, [], 0), (53, 1, .aload_n 0, 0, 0, 0, [], 0), (54, 1, .aload_n 1, 0, 0, 0, [], 0), (55, 3, .getfield 41, 9, 5, 0, [], 0), (58, 3, .putfield 41, 9, 5, 0, [], 0), (61, 1, .aload_n 0, 0, 0, 0, [], 0), (62, 1, .aload_n 1, 0, 0, 0, [], 0), (63, 3, .getfield 44, 9, 6, 0, [], 0), (66, 3, .putfield 44, 9, 6, 0, [], 0), (69, 1, .return_, 0, 0, 0, [], 0)]
def mt_74 : ix_M := (⟨"CryGorge$State", "copyFrom", "(LCryGorge$State;)V"⟩, prog_11_method_3_code, 2, (Option.none : Option FieldType), 2, 9, mo_74, [])
def mo_75 : List ix_Op := [(0, 1, .iload_n 2, 0, 0, 0, [], 0), (1, 3, .ifCond .lt 12, 8, 0, 0, [], 0), (4, 1, .iload_n 2, 0, 0, 0, [], 0), (5, 1, .aload_n 1, 0, 0, 0, [], 0), (6, 1, .arraylength, 0, 0, 0, [], 0), (7, 2, .bipush 27, 0, 0, 0, [], 0), (9, 1, .isub, 0, 0, 0, [], 0), (10, 3, .if_icmp .le 4, 9, 0, 0, [], 0), (13, 1, .return_, 0, 0, 0, [], 0), (14, 1, .aload_n 0, 0, 0, 0, [], 0), (15, 3, .getfield 9, 9, 1, 0, [], 0), (18, 1, .iconst 0, 0, 0, 0, [], 0), (19, 1, .aload_n 1, 0, 0, 0, [], 0), (20, 1, .iload_n 2, 0, 0, 0, [], 0), (21, 2, .bipush 8, 0, 0, 0, [], 0), (23, 3, .invokestatic 47, 0, 7, 5, [], 0), (26, 1, .aload_n 0, 0, 0, 0, [], 0), (27, 3, .getfield 15, 9, 2, 0, [], 0), (30, 1, .iconst 0, 0, 0, 0, [], 0), (31, 1, .aload_n 1, 0, 0, 0, [], 0), (32, 1, .iload_n 2, 0, 0, 0, [], 0), (33, 2, .bipush 8, 0, 0, 0, [], 0), (35, 1, .iadd, 0, 0, 0, [], 0), (36, 2, .bipush 8, 0, 0, 0, [], 0), (38, 3, .invokestatic 47, 0, 7, 5, [], 0), (41, 1, .aload_n 0, 0, 0, 0, [], 0), (42, 3, .getfield 18, 9, 3, 0, [], 0), (45, 1, .iconst 0, 0, 0, 0, [], 0), (46, 1, .aload_n 1, 0, 0, 0, [], 0), (47, 1, .iload_n 2, 0, 0, 0, [], 0), (48, 2, .bipush 16, 0, 0, 0, [], 0), (50, 1, .iadd, 0, 0, 0, [], 0), (51, 2, .bipush 8, 0, 0, 0, [], 0), (53, 3, .invokestatic 47, 0, 7, 5, [], 0), (56, 1, .aload_n 1, 0, 0, 0, [], 0), (57, 1, .iload_n 2, 0, 0, 0, [], 0), (58, 2, .bipush 24, 0, 0, 0, [], 0), (60, 1, .iadd, 0, 0, 0, [], 0), (61, 1, .aload_n 0, 0, 0, 0, [], 0), (62, 3, .getfield 35, 9, 4, 0, [], 0), (65, 1, .iastore, 0, 0, 0, [], 0), (66, 1, .aload_n 1, 0, 0, 0, [], 0), (67, 1, .iload_n 2, 0, 0, 0, [], 0), (68, 2, .bipush 24, 0, 0, 0, [], 0), (70, 1, .iadd, 0, 0, 0, [], 0), (71, 1, .iconst 1, 0, 0, 0, [], 0), (72, 1, .iadd, 0, 0, 0, [], 0), (73, 1, .aload_n 0, 0, 0, 0, [], 0), (74, 3, .getfield 41, 9, 5, 0, [], 0), (77, 1, .iastore, 0, 0, 0, [], 0), (78, 1, .aload_n 1, 0, 0, 0, [], 0), (79, 1, .iload_n 2, 0, 0, 0, [], 0), (80, 2, .bipush 24, 0, 0, 0, [], 0), (82, 1, .iadd, 0, 0, 0, [], 0), (83, 1, .iconst 2, 0, 0, 0, [], 0), (84, 1, .iadd, 0, 0, 0, [], 0), (85, 1, .aload_n 0, 0, 0, 0, [], 0), (86, 3, .getfield 44, 9, 6, 0, [], 0), (89, 1, .iastore, 0, 0, 0, [], 0), (90, 1, .return_, 0, 0, 0, [], 0)]
def mt_75 : ix_M := (⟨"CryGorge$State", "store", "([II)V"⟩, prog_11_method_4_code, 3, (Option.none : Option FieldType), 3, 9, mo_75, [])
def mo_76 : List ix_Op := [(0, 1, .iload_n 2, 0, 0, 0, [], 0), (1, 3, .ifCond .lt 12, 8, 0, 0, [], 0), (4, 1, .iload_n 2, 0, 0, 0, [], 0), (5, 1, .aload_n 1, 0, 0, 0, [], 0), (6, 1, .arraylength, 0, 0, 0, [], 0), (7, 2, .bipush 27, 0, 0, 0, [], 0), (9, 1, .isub, 0, 0, 0, [], 0), (10, 3, .if_icmp .le 4, 9, 0, 0, [], 0), (13, 1, .return_, 0, 0, 0, [], 0), (14, 1, .aload_n 1, 0, 0, 0, [], 0), (15, 1, .iload_n 2, 0, 0, 0, [], 0), (16, 1, .aload_n 0, 0, 0, 0, [], 0), (17, 3, .getfield 9, 9, 1, 0, [], 0), (20, 1, .iconst 0, 0, 0, 0, [], 0), (21, 2, .bipush 8, 0, 0, 0, [], 0), (23, 3, .invokestatic 47, 0, 7, 5, [], 0), (26, 1, .aload_n 1, 0, 0, 0, [], 0), (27, 1, .iload_n 2, 0, 0, 0, [], 0), (28, 2, .bipush 8, 0, 0, 0, [], 0), (30, 1, .iadd, 0, 0, 0, [], 0), (31, 1, .aload_n 0, 0, 0, 0, [], 0), (32, 3, .getfield 15, 9, 2, 0, [], 0), (35, 1, .iconst 0, 0, 0, 0, [], 0), (36, 2, .bipush 8, 0, 0, 0, [], 0), (38, 3, .invokestatic 47, 0, 7, 5, [], 0), (41, 1, .aload_n 1, 0, 0, 0, [], 0), (42, 1, .iload_n 2, 0, 0, 0, [], 0), (43, 2, .bipush 16, 0, 0, 0, [], 0), (45, 1, .iadd, 0, 0, 0, [], 0), (46, 1, .aload_n 0, 0, 0, 0, [], 0), (47, 3, .getfield 18, 9, 3, 0, [], 0), (50, 1, .iconst 0, 0, 0, 0, [], 0), (51, 2, .bipush 8, 0, 0, 0, [], 0), (53, 3, .invokestatic 47, 0, 7, 5, [], 0), (56, 1, .aload_n 0, 0, 0, 0, [], 0), (57, 1, .aload_n 1, 0, 0, 0, [], 0), (58, 1, .iload_n 2, 0, 0, 0, [], 0), (59, 2, .bipush 24, 0, 0, 0, [], 0), (61, 1, .iadd, 0, 0, 0, [], 0), (62, 1, .iaload, 0, 0, 0, [], 0), (63, 3, .putfield 35, 9, 4, 0, [], 0), (66, 1, .aload_n 0, 0, 0, 0, [], 0), (67, 1, .aload_n 1, 0, 0, 0, [], 0), (68, 1, .iload_n 2, 0, 0, 0, [], 0), (69, 2, .bipush 24, 0, 0, 0, [], 0), (71, 1, .iadd, 0, 0, 0, [], 0), (72, 1, .iconst 1, 0, 0, 0, [], 0), (73, 1, .iadd, 0, 0, 0, [], 0), (74, 1, .iaload, 0, 0, 0, [], 0), (75, 3, .putfield 41, 9, 5, 0, [], 0), (78, 1, .aload_n 0, 0, 0, 0, [], 0), (79, 1, .aload_n 1, 0, 0, 0, [], 0), (80, 1, .iload_n 2, 0, 0, 0, [], 0), (81, 2, .bipush 24, 0, 0, 0, [], 0), (83, 1, .iadd, 0, 0, 0, [], 0), (84, 1, .iconst 2, 0, 0, 0, [], 0), (85, 1, .iadd, 0, 0, 0, [], 0), (86, 1, .iaload, 0, 0, 0, [], 0), (87, 3, .putfield 44, 9, 6, 0, [], 0), (90, 1, .return_, 0, 0, 0, [], 0)]
def mt_76 : ix_M := (⟨"CryGorge$State", "load", "([II)V"⟩, prog_11_method_5_code, 3, (Option.none : Option FieldType), 3, 9, mo_76, [])
def mo_77 : List ix_Op := [(0, 1, .iconst 0, 0, 0, 0, [], 0), (1, 1, .istore_n 2, 0, 0, 0, [], 0), (2, 1, .iconst 0, 0, 0, 0, [], 0), (3, 1, .istore_n 3, 0, 0, 0, [], 0), (4, 1, .iload_n 3, 0, 0, 0, [], 0), (5, 1, .aload_n 0, 0, 0, 0, [], 0), (6, 3, .getfield 21, 9, 0, 0, [], 0), (9, 3, .getfield 28, 4, 7, 1, [], 0), (12, 3, .if_icmp .ge 25, 23, 0, 0, [], 0), (15, 1, .aload_n 0, 0, 0, 0, [], 0), (16, 3, .getfield 18, 9, 3, 0, [], 0), (19, 1, .iload_n 3, 0, 0, 0, [], 0), (20, 1, .iaload, 0, 0, 0, [], 0), (21, 1, .iload_n 1, 0, 0, 0, [], 0), (22, 3, .if_icmp .ne 9, 21, 0, 0, [], 0), (25, 1, .iload_n 2, 0, 0, 0, [], 0), (26, 1, .iconst 1, 0, 0, 0, [], 0), (27, 1, .iload_n 3, 0, 0, 0, [], 0), (28, 1, .ishl, 0, 0, 0, [], 0), (29, 1, .ior, 0, 0, 0, [], 0), (30, 1, .istore_n 2, 0, 0, 0, [], 0), (31, 3, .iinc 3 1, 0, 0, 0, [], 0), (34, 3, .goto (-30), 4, 0, 0, [], 0), (37, 1, .iload_n 2, 0, 0, 0, [], 0), (38, 1, .ireturn, 0, 0, 0, [], 0)]
def mt_77 : ix_M := (⟨"CryGorge$State", "keptIn", "(I)I"⟩, prog_11_method_6_code, 4, (Option.some FieldType.int), 2, 9, mo_77, [])
def mo_78 : List ix_Op := [(0, 1, .iconst 1, 0, 0, 0, [], 0), (1, 1, .aload_n 0, 0, 0, 0, [], 0), (2, 3, .getfield 21, 9, 0, 0, [], 0), (5, 3, .getfield 28, 4, 7, 1, [], 0), (8, 1, .ishl, 0, 0, 0, [], 0), (9, 1, .iconst 1, 0, 0, 0, [], 0), (10, 1, .isub, 0, 0, 0, [], 0), (11, 1, .aload_n 0, 0, 0, 0, [], 0), (12, 1, .iconst (-1), 0, 0, 0, [], 0), (13, 3, .invokevirtual 53, 77, 0, 2, [9], 0), (16, 1, .iconst (-1), 0, 0, 0, [], 0), (17, 1, .ixor, 0, 0, 0, [], 0), (18, 1, .iand, 0, 0, 0, [], 0), (19, 1, .aload_n 0, 0, 0, 0, [], 0), (20, 2, .bipush (-2), 0, 0, 0, [], 0), (22, 3, .invokevirtual 53, 77, 0, 2, [9], 0), (25, 1, .iconst (-1), 0, 0, 0, [], 0), (26, 1, .ixor, 0, 0, 0, [], 0), (27, 1, .iand, 0, 0, 0, [], 0), (28, 1, .ireturn, 0, 0, 0, [], 0)]
def mt_78 : ix_M := (⟨"CryGorge$State", "keptOnes", "()I"⟩, prog_11_method_7_code, 1, (Option.some FieldType.int), 1, 9, mo_78, [])
def mo_79 : List ix_Op := [(0, 1, .aload_n 0, 0, 0, 0, [], 0), (1, 2, .bipush (-2), 0, 0, 0, [], 0), (3, 3, .invokevirtual 53, 77, 0, 2, [9], 0), (6, 1, .ireturn, 0, 0, 0, [], 0)]
def mt_79 : ix_M := (⟨"CryGorge$State", "outOnes", "()I"⟩, prog_11_method_8_code, 1, (Option.some FieldType.int), 1, 9, mo_79, [])
def mo_80 : List ix_Op := [(0, 1, .iconst 0, 0, 0, 0, [], 0), (1, 1, .istore_n 1, 0, 0, 0, [], 0), (2, 1, .iconst 0, 0, 0, 0, [], 0), (3, 1, .istore_n 2, 0, 0, 0, [], 0), (4, 1, .iload_n 2, 0, 0, 0, [], 0), (5, 1, .aload_n 0, 0, 0, 0, [], 0), (6, 3, .getfield 21, 9, 0, 0, [], 0), (9, 3, .getfield 28, 4, 7, 1, [], 0), (12, 3, .if_icmp .ge 24, 22, 0, 0, [], 0), (15, 1, .aload_n 0, 0, 0, 0, [], 0), (16, 3, .getfield 9, 9, 1, 0, [], 0), (19, 1, .iload_n 2, 0, 0, 0, [], 0), (20, 1, .iaload, 0, 0, 0, [], 0), (21, 3, .ifCond .ne 9, 20, 0, 0, [], 0), (24, 1, .iload_n 1, 0, 0, 0, [], 0), (25, 1, .iconst 1, 0, 0, 0, [], 0), (26, 1, .iload_n 2, 0, 0, 0, [], 0), (27, 1, .ishl, 0, 0, 0, [], 0), (28, 1, .ior, 0, 0, 0, [], 0), (29, 1, .istore_n 1, 0, 0, 0, [], 0), (30, 3, .iinc 2 1, 0, 0, 0, [], 0), (33, 3, .goto (-29), 4, 0, 0, [], 0), (36, 1, .iload_n 1, 0, 0, 0, [], 0), (37, 1, .ireturn, 0, 0, 0, [], 0)]
def mt_80 : ix_M := (⟨"CryGorge$State", "goneOnes", "()I"⟩, prog_11_method_9_code, 3, (Option.some FieldType.int), 1, 9, mo_80, [])
def mo_81 : List ix_Op := [(0, 1, .aload_n 0, 0, 0, 0, [], 0), (1, 1, .iload_n 1, 0, 0, 0, [], 0), (2, 2, .bipush 99, 0, 0, 0, [], 0), (4, 3, .invokevirtual 57, 83, 0, 3, [9], 0), (7, 1, .ireturn, 0, 0, 0, [], 0)]
def mt_81 : ix_M := (⟨"CryGorge$State", "strengthOf", "(I)I"⟩, prog_11_method_10_code, 2, (Option.some FieldType.int), 2, 9, mo_81, [])
def mo_82 : List ix_Op := [(0, 1, .aload_n 0, 0, 0, 0, [], 0), (1, 1, .iconst 1, 0, 0, 0, [], 0), (2, 1, .aload_n 0, 0, 0, 0, [], 0), (3, 3, .getfield 21, 9, 0, 0, [], 0), (6, 3, .getfield 28, 4, 7, 1, [], 0), (9, 1, .ishl, 0, 0, 0, [], 0), (10, 1, .iconst 1, 0, 0, 0, [], 0), (11, 1, .isub, 0, 0, 0, [], 0), (12, 3, .invokevirtual 61, 81, 0, 2, [9], 0), (15, 1, .ireturn, 0, 0, 0, [], 0)]
def mt_82 : ix_M := (⟨"CryGorge$State", "strengthOfAll", "()I"⟩, prog_11_method_11_code, 1, (Option.some FieldType.int), 1, 9, mo_82, [])
def mo_83 : List ix_Op := [(0, 1, .iconst 0, 0, 0, 0, [], 0), (1, 1, .istore_n 3, 0, 0, 0, [], 0), (2, 1, .iconst 0, 0, 0, 0, [], 0), (3, 2, .istore 4, 0, 0, 0, [], 0), (5, 2, .iload 4, 0, 0, 0, [], 0), (7, 1, .aload_n 0, 0, 0, 0, [], 0), (8, 3, .getfield 21, 9, 0, 0, [], 0), (11, 3, .getfield 28, 4, 7, 1, [], 0), (14, 3, .if_icmp .ge 33, 27, 0, 0, [], 0), (17, 1, .iload_n 1, 0, 0, 0, [], 0), (18, 2, .iload 4, 0, 0, 0, [], 0), (20, 1, .ishr, 0, 0, 0, [], 0), (21, 1, .iconst 1, 0, 0, 0, [], 0), (22, 1, .iand, 0, 0, 0, [], 0), (23, 1, .iconst 1, 0, 0, 0, [], 0), (24, 3, .if_icmp .ne 17, 25, 0, 0, [], 0), (27, 1, .iload_n 3, 0, 0, 0, [], 0), (28, 1, .aload_n 0, 0, 0, 0, [], 0), (29, 3, .getfield 9, 9, 1, 0, [], 0), (32, 2, .iload 4, 0, 0, 0, [], 0), (34, 1, .iaload, 0, 0, 0, [], 0), (35, 1, .iload_n 2, 0, 0, 0, [], 0), (36, 3, .invokestatic 64, 0, 5, 2, [], 0), (39, 1, .iadd, 0, 0, 0, [], 0), (40, 1, .istore_n 3, 0, 0, 0, [], 0), (41, 3, .iinc 4 1, 0, 0, 0, [], 0), (44, 3, .goto (-39), 4, 0, 0, [], 0), (47, 1, .iload_n 3, 0, 0, 0, [], 0), (48, 1, .ireturn, 0, 0, 0, [], 0)]
def mt_83 : ix_M := (⟨"CryGorge$State", "levelled", "(II)I"⟩, prog_11_method_12_code, 5, (Option.some FieldType.int), 3, 9, mo_83, [])
def mo_84 : List ix_Op := [(0, 1, .aload_n 0, 0, 0, 0, [], 0), (1, 3, .getfield 35, 9, 4, 0, [], 0), (4, 1, .iload_n 1, 0, 0, 0, [], 0), (5, 1, .ishr, 0, 0, 0, [], 0), (6, 1, .iconst 1, 0, 0, 0, [], 0), (7, 1, .iand, 0, 0, 0, [], 0), (8, 1, .ireturn, 0, 0, 0, [], 0)]
def mt_84 : ix_M := (⟨"CryGorge$State", "feltAt", "(I)I"⟩, prog_11_method_13_code, 2, (Option.some FieldType.int), 2, 9, mo_84, [])
def mo_85 : List ix_Op := [(0, 1, .aload_n 0, 0, 0, 0, [], 0), (1, 3, .getfield 21, 9, 0, 0, [], 0), (4, 1, .iload_n 1, 0, 0, 0, [], 0), (5, 3, .invokevirtual 69, 26, 0, 2, [4], 0), (8, 3, .ifCond .eq 34, 21, 0, 0, [], 0), (11, 1, .aload_n 0, 0, 0, 0, [], 0), (12, 3, .getfield 18, 9, 3, 0, [], 0), (15, 1, .iload_n 1, 0, 0, 0, [], 0), (16, 1, .iaload, 0, 0, 0, [], 0), (17, 2, .bipush (-2), 0, 0, 0, [], 0), (19, 3, .if_icmp .eq 23, 21, 0, 0, [], 0), (22, 1, .aload_n 0, 0, 0, 0, [], 0), (23, 3, .getfield 15, 9, 2, 0, [], 0), (26, 1, .iload_n 1, 0, 0, 0, [], 0), (27, 1, .iaload, 0, 0, 0, [], 0), (28, 1, .aload_n 0, 0, 0, 0, [], 0), (29, 3, .getfield 21, 9, 0, 0, [], 0), (32, 3, .getfield 73, 4, 8, 1, [], 0), (35, 3, .if_icmp .lt 7, 21, 0, 0, [], 0), (38, 1, .iconst 1, 0, 0, 0, [], 0), (39, 3, .goto 4, 22, 0, 0, [], 0), (42, 1, .iconst 0, 0, 0, 0, [], 0), (43, 1, .ireturn, 1, 0, 0, [], 0)]
def mt_85 : ix_M := (⟨"CryGorge$State", "isRipe", "(I)Z"⟩, prog_11_method_14_code, 2, (Option.some FieldType.boolean), 2, 9, mo_85, [])
def mo_86 : List ix_Op := [(0, 1, .aload_n 0, 0, 0, 0, [], 0), (1, 3, .getfield 21, 9, 0, 0, [], 0), (4, 1, .iload_n 1, 0, 0, 0, [], 0), (5, 3, .invokevirtual 69, 26, 0, 2, [4], 0), (8, 3, .ifCond .eq 35, 22, 0, 0, [], 0), (11, 1, .aload_n 0, 0, 0, 0, [], 0), (12, 3, .getfield 21, 9, 0, 0, [], 0), (15, 1, .iload_n 2, 0, 0, 0, [], 0), (16, 3, .invokevirtual 76, 25, 0, 2, [4], 0), (19, 3, .ifCond .eq 24, 22, 0, 0, [], 0), (22, 1, .aload_n 0, 0, 0, 0, [], 0), (23, 3, .getfield 18, 9, 3, 0, [], 0), (26, 1, .iload_n 1, 0, 0, 0, [], 0), (27, 1, .iaload, 0, 0, 0, [], 0), (28, 2, .bipush (-2), 0, 0, 0, [], 0), (30, 3, .if_icmp .eq 13, 22, 0, 0, [], 0), (33, 1, .aload_n 0, 0, 0, 0, [], 0), (34, 3, .getfield 18, 9, 3, 0, [], 0), (37, 1, .iload_n 1, 0, 0, 0, [], 0), (38, 1, .iaload, 0, 0, 0, [], 0), (39, 1, .iload_n 2, 0, 0, 0, [], 0), (40, 3, .if_icmp .ne 5, 24, 0, 0, [], 0), (43, 1, .iconst 0, 0, 0, 0, [], 0), (44, 1, .ireturn, 1, 0, 0, [], 0), (45, 1, .aload_n 0, 0, 0, 0, [], 0), (46, 1, .iload_n 2, 0, 0, 0, [], 0), (47, 3, .invokevirtual 53, 77, 0, 2, [9], 0), (50, 3, .invokestatic 79, 259, 1, 1, [], 0), (53, 1, .aload_n 0, 0, 0, 0, [], 0), (54, 3, .getfield 21, 9, 0, 0, [], 0), (57, 3, .getfield 84, 4, 1, 1, [], 0), (60, 1, .iload_n 2, 0, 0, 0, [], 0), (61, 1, .iaload, 0, 0, 0, [], 0), (62, 3, .if_icmp .lt 5, 36, 0, 0, [], 0), (65, 1, .iconst 0, 0, 0, 0, [], 0), (66, 1, .ireturn, 1, 0, 0, [], 0), (67, 1, .aload_n 0, 0, 0, 0, [], 0), (68, 3, .getfield 18, 9, 3, 0, [], 0), (71, 1, .iload_n 1, 0, 0, 0, [], 0), (72, 1, .iload_n 2, 0, 0, 0, [], 0), (73, 1, .iastore, 0, 0, 0, [], 0), (74, 1, .iconst 1, 0, 0, 0, [], 0), (75, 1, .ireturn, 1, 0, 0, [], 0)]
def mt_86 : ix_M := (⟨"CryGorge$State", "makeKept", "(II)Z"⟩, prog_11_method_15_code, 3, (Option.some FieldType.boolean), 3, 9, mo_86, [])
def mo_87 : List ix_Op := [(0, 1, .aload_n 0, 0, 0, 0, [], 0), (1, 3, .getfield 21, 9, 0, 0, [], 0), (4, 1, .iload_n 1, 0, 0, 0, [], 0), (5, 3, .invokevirtual 76, 25, 0, 2, [4], 0), (8, 3, .ifCond .eq 19, 13, 0, 0, [], 0), (11, 1, .aload_n 0, 0, 0, 0, [], 0), (12, 1, .iload_n 1, 0, 0, 0, [], 0), (13, 3, .invokevirtual 87, 84, 0, 2, [9], 0), (16, 1, .iconst 1, 0, 0, 0, [], 0), (17, 3, .if_icmp .eq 10, 13, 0, 0, [], 0), (20, 1, .aload_n 0, 0, 0, 0, [], 0), (21, 3, .getfield 41, 9, 5, 0, [], 0), (24, 3, .ifCond .ne 5, 15, 0, 0, [], 0), (27, 1, .iconst 0, 0, 0, 0, [], 0), (28, 1, .ireturn, 1, 0, 0, [], 0), (29, 1, .aload_n 0, 0, 0, 0, [], 0), (30, 1, .dup, 0, 0, 0, [], 0), (31, 3, .getfield 35, 9, 4, 0, [], 0), (34, 1, .iconst 1, 0, 0, 0, [], 0), (35, 1, .iload_n 1, 0, 0, 0, [], 0), (36, 1, .ishl, 0, 0, 0, [], 0), (37, 1, .ior, 0, 0, 0, [], 0), (38, 3, .putfield 35, 9, 4, 0, [], 0), (41, 1, .aload_n 0, 0, 0, 0, [], 0), (42, 1, .dup, 0, 0, 0, [], 0), (43, 3, .getfield 41, 9, 5, 0, [], 0), (46, 1, .iconst 1, 0, 0, 0, [], 0), (47, 1, .isub, 0, 0, 0, [], 0), (48, 3, .putfield 41, 9, 5, 0, [], 0), (51, 1, .iconst 1, 0, 0, 0, [], 0), (52, 1, .ireturn, 1, 0, 0, [], 0)]
def mt_87 : ix_M := (⟨"CryGorge$State", "makeFelted", "(I)Z"⟩, prog_11_method_16_code, 2, (Option.some FieldType.boolean), 2, 9, mo_87, [])
def mo_88 : List ix_Op := [(0, 1, .aload_n 0, 0, 0, 0, [], 0), (1, 3, .getfield 21, 9, 0, 0, [], 0), (4, 1, .iload_n 1, 0, 0, 0, [], 0), (5, 3, .invokevirtual 76, 25, 0, 2, [4], 0), (8, 3, .ifCond .eq 11, 9, 0, 0, [], 0), (11, 1, .aload_n 0, 0, 0, 0, [], 0), (12, 1, .iload_n 1, 0, 0, 0, [], 0), (13, 3, .invokevirtual 87, 84, 0, 2, [9], 0), (16, 3, .ifCond .ne 5, 11, 0, 0, [], 0), (19, 1, .iconst 0, 0, 0, 0, [], 0), (20, 1, .ireturn, 1, 0, 0, [], 0), (21, 1, .aload_n 0, 0, 0, 0, [], 0), (22, 1, .dup, 0, 0, 0, [], 0), (23, 3, .getfield 35, 9, 4, 0, [], 0), (26, 1, .iconst 1, 0, 0, 0, [], 0), (27, 1, .iload_n 1, 0, 0, 0, [], 0), (28, 1, .ishl, 0, 0, 0, [], 0), (29, 1, .iconst (-1), 0, 0, 0, [], 0), (30, 1, .ixor, 0, 0, 0, [], 0), (31, 1, .iand, 0, 0, 0, [], 0), (32, 3, .putfield 35, 9, 4, 0, [], 0), (35, 1, .aload_n 0, 0, 0, 0, [], 0), (36, 1, .dup, 0, 0, 0, [], 0), (37, 3, .getfield 41, 9, 5, 0, [], 0), (40, 1, .iconst 1, 0, 0, 0, [], 0), (41, 1, .iadd, 0, 0, 0, [], 0), (42, 3, .putfield 41, 9, 5, 0, [], 0), (45, 1, .iconst 1, 0, 0, 0, [], 0), (46, 1, .ireturn, 1, 0, 0, [], 0)]
def mt_88 : ix_M := (⟨"CryGorge$State", "makeBare", "(I)Z"⟩, prog_11_method_17_code, 2, (Option.some FieldType.boolean), 2, 9, mo_88, [])
def mo_89 : List ix_Op := [(0, 1, .aload_n 0, 0, 0, 0, [], 0), (1, 3, .getfield 21, 9, 0, 0, [], 0), (4, 1, .iload_n 1, 0, 0, 0, [], 0), (5, 3, .invokevirtual 69, 26, 0, 2, [4], 0), (8, 3, .ifCond .eq 12, 10, 0, 0, [], 0), (11, 1, .aload_n 0, 0, 0, 0, [], 0), (12, 3, .getfield 18, 9, 3, 0, [], 0), (15, 1, .iload_n 1, 0, 0, 0, [], 0), (16, 1, .iaload, 0, 0, 0, [], 0), (17, 3, .ifCond .ge 5, 12, 0, 0, [], 0), (20, 1, .iconst 0, 0, 0, 0, [], 0), (21, 1, .ireturn, 1, 0, 0, [], 0), (22, 1, .aload_n 0, 0, 0, 0, [], 0), (23, 3, .getfield 18, 9, 3, 0, [], 0), (26, 1, .iload_n 1, 0, 0, 0, [], 0), (27, 1, .iconst (-1), 0, 0, 0, [], 0), (28, 1, .iastore, 0, 0, 0, [], 0), (29, 1, .iconst 1, 0, 0, 0, [], 0), (30, 1, .ireturn, 1, 0, 0, [], 0)]
def mt_89 : ix_M := (⟨"CryGorge$State", "makeLoose", "(I)Z"⟩, prog_11_method_18_code, 2, (Option.some FieldType.boolean), 2, 9, mo_89, [])
def mo_90 : List ix_Op := [(0, 1, .aload_n 0, 0, 0, 0, [], 0), (1, 3, .getfield 21, 9, 0, 0, [], 0), (4, 1, .iload_n 1, 0, 0, 0, [], 0), (5, 3, .invokevirtual 69, 26, 0, 2, [4], 0), (8, 3, .ifCond .eq 25, 17, 0, 0, [], 0), (11, 1, .aload_n 0, 0, 0, 0, [], 0), (12, 3, .getfield 18, 9, 3, 0, [], 0), (15, 1, .iload_n 1, 0, 0, 0, [], 0), (16, 1, .iaload, 0, 0, 0, [], 0), (17, 2, .bipush (-2), 0, 0, 0, [], 0), (19, 3, .if_icmp .eq 14, 17, 0, 0, [], 0), (22, 1, .aload_n 0, 0, 0, 0, [], 0), (23, 3, .getfield 9, 9, 1, 0, [], 0), (26, 1, .iload_n 1, 0, 0, 0, [], 0), (27, 1, .iaload, 0, 0, 0, [], 0), (28, 2, .bipush 99, 0, 0, 0, [], 0), (30, 3, .if_icmp .lt 5, 19, 0, 0, [], 0), (33, 1, .iconst 0, 0, 0, 0, [], 0), (34, 1, .ireturn, 1, 0, 0, [], 0), (35, 1, .aload_n 0, 0, 0, 0, [], 0), (36, 3, .getfield 9, 9, 1, 0, [], 0), (39, 1, .iload_n 1, 0, 0, 0, [], 0), (40, 1, .aload_n 0, 0, 0, 0, [], 0), (41, 3, .getfield 9, 9, 1, 0, [], 0), (44, 1, .iload_n 1, 0, 0, 0, [], 0), (45, 1, .iaload, 0, 0, 0, [], 0), (46, 1, .iload_n 2, 0, 0, 0, [], 0), (47, 1, .iadd, 0, 0, 0, [], 0), (48, 2, .bipush 99, 0, 0, 0, [], 0), (50, 3, .invokestatic 64, 0, 5, 2, [], 0), (53, 1, .iastore, 0, 0, 0, [], 0), (54, 1, .iconst 1, 0, 0, 0, [], 0), (55, 1, .ireturn, 1, 0, 0, [], 0)]
def mt_90 : ix_M := (⟨"CryGorge$State", "makeStronger", "(II)Z"⟩, prog_11_method_19_code, 3, (Option.some FieldType.boolean), 3, 9, mo_90, [])
def mo_91 : List ix_Op := [(0, 1, .aload_n 0, 0, 0, 0, [], 0), (1, 1, .iload_n 1, 0, 0, 0, [], 0), (2, 3, .invokevirtual 90, 85, 0, 2, [9], 0), (5, 3, .ifCond .ne 5, 6, 0, 0, [], 0), (8, 1, .iconst 0, 0, 0, 0, [], 0), (9, 1, .ireturn, 1, 0, 0, [], 0), (10, 1, .aload_n 0, 0, 0, 0, [], 0), (11, 3, .getfield 18, 9, 3, 0, [], 0), (14, 1, .iload_n 1, 0, 0, 0, [], 0), (15, 2, .bipush (-2), 0, 0, 0, [], 0), (17, 1, .iastore, 0, 0, 0, [], 0), (18, 1, .iconst 1, 0, 0, 0, [], 0), (19, 1, .ireturn, 1, 0, 0, [], 0)]
def mt_91 : ix_M := (⟨"CryGorge$State", "makeOut", "(I)Z"⟩, prog_11_method_20_code, 2, (Option.some FieldType.boolean), 2, 9, mo_91, [])
def mo_92 : List ix_Op := [(0, 1, .aload_n 0, 0, 0, 0, [], 0), (1, 3, .getfield 24, 10, 4, 0, [], 0), (4, 1, .aload_n 0, 0, 0, 0, [], 0), (5, 3, .getfield 9, 10, 0, 0, [], 0), (8, 1, .arraylength, 0, 0, 0, [], 0), (9, 3, .if_icmp .ge 43, 30, 0, 0, [], 0), (12, 1, .aload_n 0, 0, 0, 0, [], 0), (13, 3, .getfield 9, 10, 0, 0, [], 0), (16, 1, .aload_n 0, 0, 0, 0, [], 0), (17, 3, .getfield 24, 10, 4, 0, [], 0), (20, 1, .iload_n 1, 0, 0, 0, [], 0), (21, 1, .iastore, 0, 0, 0, [], 0), (22, 1, .aload_n 0, 0, 0, 0, [], 0), (23, 3, .getfield 15, 10, 1, 0, [], 0), (26, 1, .aload_n 0, 0, 0, 0, [], 0), (27, 3, .getfield 24, 10, 4, 0, [], 0), (30, 1, .iload_n 2, 0, 0, 0, [], 0), (31, 1, .iastore, 0, 0, 0, [], 0), (32, 1, .aload_n 0, 0, 0, 0, [], 0), (33, 3, .getfield 18, 10, 2, 0, [], 0), (36, 1, .aload_n 0, 0, 0, 0, [], 0), (37, 3, .getfield 24, 10, 4, 0, [], 0), (40, 1, .iload_n 3, 0, 0, 0, [], 0), (41, 1, .iastore, 0, 0, 0, [], 0), (42, 1, .aload_n 0, 0, 0, 0, [], 0), (43, 1, .dup, 0, 0, 0, [], 0), (44, 3, .getfield 24, 10, 4, 0, [], 0), (47, 1, .iconst 1, 0, 0, 0, [], 0), (48, 1, .iadd, 0, 0, 0, [], 0), (49, 3, .putfield 24, 10, 4, 0, [], 0), (52, 1, .return_, 0, 0, 0, [], 0)]
def mt_92 : ix_M := (⟨"CryGorge$Work", "emit", "(III)V"⟩, prog_12_method_2_code, 4, (Option.none : Option FieldType), 4, 10, mo_92, [])
def mo_93 : List ix_Op := [(0, 1, .aload_n 0, 0, 0, 0, [], 0), (1, 1, .iconst 0, 0, 0, 0, [], 0), (2, 3, .putfield 24, 10, 4, 0, [], 0), (5, 1, .aload_n 0, 0, 0, 0, [], 0), (6, 1, .aload_n 1, 0, 0, 0, [], 0), (7, 1, .aload_n 2, 0, 0, 0, [], 0), (8, 3, .invokevirtual 28, 94, 0, 3, [10], 0), (11, 1, .aload_n 1, 0, 0, 0, [], 0), (12, 3, .invokevirtual 32, 61, 0, 1, [7], 0), (15, 3, .ifCond .eq 8, 13, 0, 0, [], 0), (18, 1, .aload_n 1, 0, 0, 0, [], 0), (19, 1, .iconst 1, 0, 0, 0, [], 0), (20, 3, .invokevirtual 38, 59, 0, 2, [7], 0), (23, 1, .return_, 0, 0, 0, [], 0)]
def mt_93 : ix_M := (⟨"CryGorge$Work", "read", "(LCryGorge$Reader;LCryGorge$Land;)V"⟩, prog_12_method_3_code, 3, (Option.none : Option FieldType), 3, 10, mo_93, [])
def mo_94 : List ix_Op := [(0, 1, .iconst 0, 0, 0, 0, [], 0), (1, 1, .istore_n 3, 0, 0, 0, [], 0), (2, 1, .iload_n 3, 0, 0, 0, [], 0), (3, 3, .sipush 150, 0, 0, 0, [], 0), (6, 3, .if_icmp .ge 37, 21, 0, 0, [], 0), (9, 1, .aload_n 1, 0, 0, 0, [], 0), (10, 3, .invokevirtual 32, 61, 0, 1, [7], 0), (13, 3, .ifCond .eq 30, 21, 0, 0, [], 0), (16, 1, .aload_n 1, 0, 0, 0, [], 0), (17, 3, .invokevirtual 42, 60, 0, 1, [7], 0), (20, 2, .bipush 93, 0, 0, 0, [], 0), (22, 3, .if_icmp .eq 21, 21, 0, 0, [], 0), (25, 1, .aload_n 0, 0, 0, 0, [], 0), (26, 1, .aload_n 1, 0, 0, 0, [], 0), (27, 1, .aload_n 2, 0, 0, 0, [], 0), (28, 3, .invokevirtual 46, 95, 0, 3, [10], 0), (31, 1, .aload_n 1, 0, 0, 0, [], 0), (32, 2, .bipush 59, 0, 0, 0, [], 0), (34, 3, .invokevirtual 49, 63, 0, 2, [7], 0), (37, 3, .iinc 3 1, 0, 0, 0, [], 0), (40, 3, .goto (-38), 2, 0, 0, [], 0), (43, 1, .return_, 0, 0, 0, [], 0)]
def mt_94 : ix_M := (⟨"CryGorge$Work", "readSteps", "(LCryGorge$Reader;LCryGorge$Land;)V"⟩, prog_12_method_4_code, 4, (Option.none : Option FieldType), 3, 10, mo_94, [])
def mo_95 : List ix_Op := [(0, 1, .aload_n 2, 0, 0, 0, [], 0), (1, 3, .getfield 53, 4, 7, 1, [], 0), (4, 1, .iconst 1, 0, 0, 0, [], 0), (5, 1, .isub, 0, 0, 0, [], 0), (6, 1, .istore_n 3, 0, 0, 0, [], 0), (7, 1, .aload_n 2, 0, 0, 0, [], 0), (8, 3, .getfield 58, 4, 6, 1, [], 0), (11, 1, .iconst 1, 0, 0, 0, [], 0), (12, 1, .isub, 0, 0, 0, [], 0), (13, 2, .istore 4, 0, 0, 0, [], 0), (15, 1, .aload_n 1, 0, 0, 0, [], 0), (16, 3, .invokevirtual 61, 65, 0, 1, [7], 0), (19, 1, .aload_n 1, 0, 0, 0, [], 0), (20, 2, .ldc 64, 2009, 0, 1, [], 0), (22, 3, .invokevirtual 66, 66, 0, 2, [7], 0), (25, 3, .ifCond .eq 28, 30, 0, 0, [], 0), (28, 1, .aload_n 1, 0, 0, 0, [], 0), (29, 1, .iconst 0, 0, 0, 0, [], 0), (30, 1, .iload_n 3, 0, 0, 0, [], 0), (31, 3, .invokevirtual 70, 64, 0, 3, [7], 0), (34, 2, .istore 5, 0, 0, 0, [], 0), (36, 1, .aload_n 0, 0, 0, 0, [], 0), (37, 1, .iconst 0, 0, 0, 0, [], 0), (38, 2, .iload 5, 0, 0, 0, [], 0), (40, 1, .aload_n 1, 0, 0, 0, [], 0), (41, 1, .iconst 0, 0, 0, 0, [], 0), (42, 2, .iload 4, 0, 0, 0, [], 0), (44, 3, .invokevirtual 70, 64, 0, 3, [7], 0), (47, 3, .invokevirtual 74, 92, 0, 4, [10], 0), (50, 3, .goto 178, 122, 0, 0, [], 0), (53, 1, .aload_n 1, 0, 0, 0, [], 0), (54, 2, .ldc 78, 2007, 0, 1, [], 0), (56, 3, .invokevirtual 66, 66, 0, 2, [7], 0), (59, 3, .ifCond .eq 19, 43, 0, 0, [], 0), (62, 1, .aload_n 0, 0, 0, 0, [], 0), (63, 1, .iconst 1, 0, 0, 0, [], 0), (64, 1, .aload_n 1, 0, 0, 0, [], 0), (65, 1, .iconst 0, 0, 0, 0, [], 0), (66, 2, .iload 4, 0, 0, 0, [], 0), (68, 3, .invokevirtual 70, 64, 0, 3, [7], 0), (71, 1, .iconst 0, 0, 0, 0, [], 0), (72, 3, .invokevirtual 74, 92, 0, 4, [10], 0), (75, 3, .goto 153, 122, 0, 0, [], 0), (78, 1, .aload_n 1, 0, 0, 0, [], 0), (79, 2, .ldc 80, 2003, 0, 1, [], 0), (81, 3, .invokevirtual 66, 66, 0, 2, [7], 0), (84, 3, .ifCond .eq 19, 56, 0, 0, [], 0), (87, 1, .aload_n 0, 0, 0, 0, [], 0), (88, 1, .iconst 2, 0, 0, 0, [], 0), (89, 1, .aload_n 1, 0, 0, 0, [], 0), (90, 1, .iconst 0, 0, 0, 0, [], 0), (91, 2, .iload 4, 0, 0, 0, [], 0), (93, 3, .invokevirtual 70, 64, 0, 3, [7], 0), (96, 1, .iconst 0, 0, 0, 0, [], 0), (97, 3, .invokevirtual 74, 92, 0, 4, [10], 0), (100, 3, .goto 128, 122, 0, 0, [], 0), (103, 1, .aload_n 1, 0, 0, 0, [], 0), (104, 2, .ldc 82, 2011, 0, 1, [], 0), (106, 3, .invokevirtual 66, 66, 0, 2, [7], 0), (109, 3, .ifCond .eq 18, 69, 0, 0, [], 0), (112, 1, .aload_n 0, 0, 0, 0, [], 0), (113, 1, .iconst 3, 0, 0, 0, [], 0), (114, 1, .aload_n 1, 0, 0, 0, [], 0), (115, 1, .iconst 0, 0, 0, 0, [], 0), (116, 1, .iload_n 3, 0, 0, 0, [], 0), (117, 3, .invokevirtual 70, 64, 0, 3, [7], 0), (120, 1, .iconst 0, 0, 0, 0, [], 0), (121, 3, .invokevirtual 74, 92, 0, 4, [10], 0), (124, 3, .goto 104, 122, 0, 0, [], 0), (127, 1, .aload_n 1, 0, 0, 0, [], 0), (128, 2, .ldc 84, 2008, 0, 1, [], 0), (130, 3, .invokevirtual 66, 66, 0, 2, [7], 0), (133, 3, .ifCond .eq 28, 87, 0, 0, [], 0), (136, 1, .aload_n 1, 0, 0, 0, [], 0), (137, 1, .iconst 0, 0, 0, 0, [], 0), (138, 1, .iload_n 3, 0, 0, 0, [], 0), (139, 3, .invokevirtual 70, 64, 0, 3, [7], 0), (142, 2, .istore 5, 0, 0, 0, [], 0), (144, 1, .aload_n 0, 0, 0, 0, [], 0), (145, 1, .iconst 4, 0, 0, 0, [], 0), (146, 2, .iload 5, 0, 0, 0, [], 0), (148, 1, .aload_n 1, 0, 0, 0, [], 0), (149, 1, .iconst 1, 0, 0, 0, [], 0), (150, 2, .bipush 30, 0, 0, 0, [], 0), (152, 3, .invokevirtual 70, 64, 0, 3, [7], 0), (155, 3, .invokevirtual 74, 92, 0, 4, [10], 0), (158, 3, .goto 70, 122, 0, 0, [], 0), (161, 1, .aload_n 1, 0, 0, 0, [], 0), (162, 2, .ldc 86, 2015, 0, 1, [], 0), (164, 3, .invokevirtual 66, 66, 0, 2, [7], 0), (167, 3, .ifCond .eq 18, 100, 0, 0, [], 0), (170, 1, .aload_n 0, 0, 0, 0, [], 0), (171, 1, .iconst 5, 0, 0, 0, [], 0), (172, 1, .aload_n 1, 0, 0, 0, [], 0), (173, 1, .iconst 0, 0, 0, 0, [], 0), (174, 1, .iload_n 3, 0, 0, 0, [], 0), (175, 3, .invokevirtual 70, 64, 0, 3, [7], 0), (178, 1, .iconst 0, 0, 0, 0, [], 0), (179, 3, .invokevirtual 74, 92, 0, 4, [10], 0), (182, 3, .goto 46, 122, 0, 0, [], 0), (185, 1, .aload_n 1, 0, 0, 0, [], 0), (186, 2, .ldc 88, 2020, 0, 1, [], 0), (188, 3, .invokevirtual 66, 66, 0, 2, [7], 0), (191, 3, .ifCond .eq 14, 110, 0, 0, [], 0), (194, 1, .aload_n 0, 0, 0, 0, [], 0), (195, 2, .bipush 6, 0, 0, 0, [], 0), (197, 1, .iconst 0, 0, 0, 0, [], 0), (198, 1, .iconst 0, 0, 0, 0, [], 0), (199, 3, .invokevirtual 74, 92, 0, 4, [10], 0), (202, 3, .goto 26, 122, 0, 0, [], 0), (205, 1, .aload_n 1, 0, 0, 0, [], 0), (206, 2, .ldc 90, 2000, 0, 1, [], 0), (208, 3, .invokevirtual 66, 66, 0, 2, [7], 0), (211, 3, .ifCond .eq 12, 119, 0, 0, [], 0), (214, 1, .aload_n 0, 0, 0, 0, [], 0), (215, 1, .aload_n 1, 0, 0, 0, [], 0), (216, 1, .aload_n 2, 0, 0, 0, [], 0), (217, 3, .invokevirtual 92, 96, 0, 3, [10], 0), (220, 3, .goto 8, 122, 0, 0, [], 0), (223, 1, .aload_n 1, 0, 0, 0, [], 0), (224, 1, .iconst 1, 0, 0, 0, [], 0), (225, 3, .invokevirtual 38, 59, 0, 2, [7], 0), (228, 1, .return_, 0, 0, 0, [], 0)]
def mt_95 : ix_M := (⟨"CryGorge$Work", "readStep", "(LCryGorge$Reader;LCryGorge$Land;)V"⟩, prog_12_method_5_code, 6, (Option.none : Option FieldType), 3, 10, mo_95, [])
def mo_96 : List ix_Op := [(0, 1, .aload_n 1, 0, 0, 0, [], 0), (1, 3, .invokevirtual 95, 67, 0, 1, [7], 0), (4, 1, .aload_n 1, 0, 0, 0, [], 0), (5, 1, .iconst 0, 0, 0, 0, [], 0), (6, 2, .bipush 40, 0, 0, 0, [], 0), (8, 3, .invokevirtual 70, 64, 0, 3, [7], 0), (11, 1, .istore_n 3, 0, 0, 0, [], 0), (12, 1, .aload_n 1, 0, 0, 0, [], 0), (13, 2, .bipush 91, 0, 0, 0, [], 0), (15, 3, .invokevirtual 49, 63, 0, 2, [7], 0), (18, 1, .aload_n 0, 0, 0, 0, [], 0), (19, 3, .getfield 24, 10, 4, 0, [], 0), (22, 2, .istore 4, 0, 0, 0, [], 0), (24, 1, .aload_n 0, 0, 0, 0, [], 0), (25, 2, .bipush 7, 0, 0, 0, [], 0), (27, 1, .iload_n 3, 0, 0, 0, [], 0), (28, 1, .iconst 0, 0, 0, 0, [], 0), (29, 3, .invokevirtual 74, 92, 0, 4, [10], 0), (32, 1, .aload_n 0, 0, 0, 0, [], 0), (33, 1, .aload_n 1, 0, 0, 0, [], 0), (34, 1, .aload_n 2, 0, 0, 0, [], 0), (35, 3, .invokevirtual 28, 94, 0, 3, [10], 0), (38, 1, .aload_n 1, 0, 0, 0, [], 0), (39, 2, .bipush 93, 0, 0, 0, [], 0), (41, 3, .invokevirtual 49, 63, 0, 2, [7], 0), (44, 1, .aload_n 1, 0, 0, 0, [], 0), (45, 3, .invokevirtual 98, 68, 0, 1, [7], 0), (48, 2, .iload 4, 0, 0, 0, [], 0), (50, 1, .aload_n 0, 0, 0, 0, [], 0), (51, 3, .getfield 18, 10, 2, 0, [], 0), (54, 1, .arraylength, 0, 0, 0, [], 0), (55, 3, .if_icmp .ge 14, 38, 0, 0, [], 0), (58, 1, .aload_n 0, 0, 0, 0, [], 0), (59, 3, .getfield 18, 10, 2, 0, [], 0), (62, 2, .iload 4, 0, 0, 0, [], 0), (64, 1, .aload_n 0, 0, 0, 0, [], 0), (65, 3, .getfield 24, 10, 4, 0, [], 0), (68, 1, .iastore, 0, 0, 0, [], 0), (69, 1, .aload_n 0, 0, 0, 0, [], 0), (70, 2, .bipush 8, 0, 0, 0, [], 0), (72, 2, .iload 4, 0, 0, 0, [], 0), (74, 1, .iconst 0, 0, 0, 0, [], 0), (75, 3, .invokevirtual 74, 92, 0, 4, [10], 0), (78, 1, .return_, 0, 0, 0, [], 0)]
def mt_96 : ix_M := (⟨"CryGorge$Work", "readAgain", "(LCryGorge$Reader;LCryGorge$Land;)V"⟩, prog_12_method_6_code, 5, (Option.none : Option FieldType), 3, 10, mo_96, [])
def mo_97 : List ix_Op := [(0, 1, .aload_n 0, 0, 0, 0, [], 0), (1, 1, .iconst 0, 0, 0, 0, [], 0), (2, 3, .putfield 101, 10, 5, 0, [], 0), (5, 1, .aload_n 0, 0, 0, 0, [], 0), (6, 1, .iconst 0, 0, 0, 0, [], 0), (7, 3, .putfield 104, 10, 6, 0, [], 0), (10, 1, .iconst 0, 0, 0, 0, [], 0), (11, 1, .istore_n 3, 0, 0, 0, [], 0), (12, 1, .iconst 0, 0, 0, 0, [], 0), (13, 2, .istore 4, 0, 0, 0, [], 0), (15, 1, .iconst 0, 0, 0, 0, [], 0), (16, 2, .istore 5, 0, 0, 0, [], 0), (18, 2, .iload 5, 0, 0, 0, [], 0), (20, 2, .ldc 107, 0, 0, 0, [], 100000), (22, 3, .if_icmp .ge 88, 55, 0, 0, [], 0), (25, 2, .iload 4, 0, 0, 0, [], 0), (27, 3, .ifCond .lt 83, 55, 0, 0, [], 0), (30, 2, .iload 4, 0, 0, 0, [], 0), (32, 1, .aload_n 0, 0, 0, 0, [], 0), (33, 3, .getfield 24, 10, 4, 0, [], 0), (36, 3, .if_icmp .ge 74, 55, 0, 0, [], 0), (39, 1, .aload_n 0, 0, 0, 0, [], 0), (40, 3, .getfield 9, 10, 0, 0, [], 0), (43, 2, .iload 4, 0, 0, 0, [], 0), (45, 1, .iaload, 0, 0, 0, [], 0), (46, 2, .bipush 8, 0, 0, 0, [], 0), (48, 3, .if_icmp .ne 14, 32, 0, 0, [], 0), (51, 1, .aload_n 0, 0, 0, 0, [], 0), (52, 2, .iload 4, 0, 0, 0, [], 0), (54, 3, .invokevirtual 108, 99, 0, 2, [10], 0), (57, 2, .istore 4, 0, 0, 0, [], 0), (59, 3, .goto 45, 53, 0, 0, [], 0), (62, 1, .iload_n 3, 0, 0, 0, [], 0), (63, 3, .sipush 200, 0, 0, 0, [], 0), (66, 3, .if_icmp .lt 4, 36, 0, 0, [], 0), (69, 1, .return_, 0, 0, 0, [], 0), (70, 3, .iinc 3 1, 0, 0, 0, [], 0), (73, 1, .aload_n 0, 0, 0, 0, [], 0), (74, 3, .getfield 9, 10, 0, 0, [], 0), (77, 2, .iload 4, 0, 0, 0, [], 0), (79, 1, .iaload, 0, 0, 0, [], 0), (80, 2, .bipush 7, 0, 0, 0, [], 0), (82, 3, .if_icmp .ne 12, 47, 0, 0, [], 0), (85, 1, .aload_n 0, 0, 0, 0, [], 0), (86, 2, .iload 4, 0, 0, 0, [], 0), (88, 3, .invokevirtual 112, 98, 0, 2, [10], 0), (91, 3, .goto 11, 52, 0, 0, [], 0), (94, 1, .aload_n 0, 0, 0, 0, [], 0), (95, 2, .iload 4, 0, 0, 0, [], 0), (97, 1, .aload_n 1, 0, 0, 0, [], 0), (98, 1, .aload_n 2, 0, 0, 0, [], 0), (99, 3, .invokevirtual 115, 100, 0, 4, [10], 0), (102, 2, .istore 4, 0, 0, 0, [], 0), (104, 3, .iinc 5 1, 0, 0, 0, [], 0), (107, 3, .goto (-89), 12, 0, 0, [], 0), (110, 1, .return_, 0, 0, 0, [], 0)]
def mt_97 : ix_M := (⟨"CryGorge$Work", "run", "(LCryGorge$State;LCryGorge$Seasons;)V"⟩, prog_12_method_7_code, 6, (Option.none : Option FieldType), 3, 10, mo_97, [])
def mo_98 : List ix_Op := [(0, 1, .aload_n 0, 0, 0, 0, [], 0), (1, 3, .getfield 21, 10, 3, 0, [], 0), (4, 1, .iload_n 1, 0, 0, 0, [], 0), (5, 1, .aload_n 0, 0, 0, 0, [], 0), (6, 3, .getfield 15, 10, 1, 0, [], 0), (9, 1, .iload_n 1, 0, 0, 0, [], 0), (10, 1, .iaload, 0, 0, 0, [], 0), (11, 1, .iastore, 0, 0, 0, [], 0), (12, 1, .aload_n 0, 0, 0, 0, [], 0), (13, 3, .getfield 21, 10, 3, 0, [], 0), (16, 1, .iload_n 1, 0, 0, 0, [], 0), (17, 1, .iaload, 0, 0, 0, [], 0), (18, 3, .ifCond .le 9, 17, 0, 0, [], 0), (21, 1, .iload_n 1, 0, 0, 0, [], 0), (22, 1, .iconst 1, 0, 0, 0, [], 0), (23, 1, .iadd, 0, 0, 0, [], 0), (24, 3, .goto 11, 23, 0, 0, [], 0), (27, 1, .aload_n 0, 0, 0, 0, [], 0), (28, 3, .getfield 18, 10, 2, 0, [], 0), (31, 1, .iload_n 1, 0, 0, 0, [], 0), (32, 1, .iaload, 0, 0, 0, [], 0), (33, 1, .iconst 1, 0, 0, 0, [], 0), (34, 1, .iadd, 0, 0, 0, [], 0), (35, 1, .ireturn, 0, 0, 0, [], 0)]
def mt_98 : ix_M := (⟨"CryGorge$Work", "afterAgain", "(I)I"⟩, prog_12_method_8_code, 2, (Option.some FieldType.int), 2, 10, mo_98, [])
def mo_99 : List ix_Op := [(0, 1, .aload_n 0, 0, 0, 0, [], 0), (1, 3, .getfield 15, 10, 1, 0, [], 0), (4, 1, .iload_n 1, 0, 0, 0, [], 0), (5, 1, .iaload, 0, 0, 0, [], 0), (6, 1, .istore_n 2, 0, 0, 0, [], 0), (7, 1, .iload_n 2, 0, 0, 0, [], 0), (8, 3, .ifCond .lt 12, 12, 0, 0, [], 0), (11, 1, .iload_n 2, 0, 0, 0, [], 0), (12, 1, .aload_n 0, 0, 0, 0, [], 0), (13, 3, .getfield 21, 10, 3, 0, [], 0), (16, 1, .arraylength, 0, 0, 0, [], 0), (17, 3, .if_icmp .lt 7, 16, 0, 0, [], 0), (20, 1, .iload_n 1, 0, 0, 0, [], 0), (21, 1, .iconst 1, 0, 0, 0, [], 0), (22, 1, .iadd, 0, 0, 0, [], 0), (23, 1, .ireturn, 0, 0, 0, [], 0), (24, 1, .aload_n 0, 0, 0, 0, [], 0), (25, 3, .getfield 21, 10, 3, 0, [], 0), (28, 1, .iload_n 2, 0, 0, 0, [], 0), (29, 1, .dup2, 0, 0, 0, [], 0), (30, 1, .iaload, 0, 0, 0, [], 0), (31, 1, .iconst 1, 0, 0, 0, [], 0), (32, 1, .isub, 0, 0, 0, [], 0), (33, 1, .iastore, 0, 0, 0, [], 0), (34, 1, .aload_n 0, 0, 0, 0, [], 0), (35, 3, .getfield 21, 10, 3, 0, [], 0), (38, 1, .iload_n 2, 0, 0, 0, [], 0), (39, 1, .iaload, 0, 0, 0, [], 0), (40, 3, .ifCond .le 9, 33, 0, 0, [], 0), (43, 1, .iload_n 2, 0, 0, 0, [], 0), (44, 1, .iconst 1, 0, 0, 0, [], 0), (45, 1, .iadd, 0, 0, 0, [], 0), (46, 3, .goto 6, 36, 0, 0, [], 0), (49, 1, .iload_n 1, 0, 0, 0, [], 0), (50, 1, .iconst 1, 0, 0, 0, [], 0), (51, 1, .iadd, 0, 0, 0, [], 0), (52, 1, .ireturn, 0, 0, 0, [], 0)]
def mt_99 : ix_M := (⟨"CryGorge$Work", "afterEnd", "(I)I"⟩, prog_12_method_9_code, 3, (Option.some FieldType.int), 2, 10, mo_99, [])
def mo_100 : List ix_Op := [(0, 1, .aload_n 0, 0, 0, 0, [], 0), (1, 3, .getfield 9, 10, 0, 0, [], 0), (4, 1, .iload_n 1, 0, 0, 0, [], 0), (5, 1, .iaload, 0, 0, 0, [], 0), (6, 2, .bipush 6, 0, 0, 0, [], 0), (8, 3, .if_icmp .ne 21, 14, 0, 0, [], 0), (11, 1, .aload_n 2, 0, 0, 0, [], 0), (12, 3, .getfield 119, 9, 6, 1, [], 0), (15, 3, .sipush 300, 0, 0, 0, [], 0), (18, 3, .if_icmp .ge 7, 12, 0, 0, [], 0), (21, 1, .iconst 1, 0, 0, 0, [], 0), (22, 3, .goto 13, 18, 0, 0, [], 0), (25, 1, .iconst 0, 0, 0, 0, [], 0), (26, 3, .goto 9, 18, 0, 0, [], 0), (29, 1, .aload_n 0, 0, 0, 0, [], 0), (30, 1, .iload_n 1, 0, 0, 0, [], 0), (31, 1, .aload_n 2, 0, 0, 0, [], 0), (32, 3, .invokevirtual 123, 101, 0, 3, [10], 0), (35, 2, .istore 4, 0, 0, 0, [], 0), (37, 2, .iload 4, 0, 0, 0, [], 0), (39, 3, .ifCond .eq 19, 30, 0, 0, [], 0), (42, 1, .aload_n 0, 0, 0, 0, [], 0), (43, 3, .getfield 9, 10, 0, 0, [], 0), (46, 1, .iload_n 1, 0, 0, 0, [], 0), (47, 1, .iaload, 0, 0, 0, [], 0), (48, 2, .bipush 6, 0, 0, 0, [], 0), (50, 3, .if_icmp .ne 8, 30, 0, 0, [], 0), (53, 1, .aload_n 3, 0, 0, 0, [], 0), (54, 1, .aload_n 2, 0, 0, 0, [], 0), (55, 3, .invokevirtual 127, 72, 0, 2, [8], 0), (58, 1, .aload_n 0, 0, 0, 0, [], 0), (59, 1, .dup, 0, 0, 0, [], 0), (60, 3, .getfield 101, 10, 5, 0, [], 0), (63, 2, .iload 4, 0, 0, 0, [], 0), (65, 3, .ifCond .eq 7, 37, 0, 0, [], 0), (68, 1, .iconst 1, 0, 0, 0, [], 0), (69, 3, .goto 4, 38, 0, 0, [], 0), (72, 1, .iconst 0, 0, 0, 0, [], 0), (73, 1, .iadd, 0, 0, 0, [], 0), (74, 3, .putfield 101, 10, 5, 0, [], 0), (77, 1, .aload_n 0, 0, 0, 0, [], 0), (78, 1, .dup, 0, 0, 0, [], 0), (79, 3, .getfield 104, 10, 6, 0, [], 0), (82, 2, .iload 4, 0, 0, 0, [], 0), (84, 3, .ifCond .eq 7, 47, 0, 0, [], 0), (87, 1, .iconst 0, 0, 0, 0, [], 0), (88, 3, .goto 4, 48, 0, 0, [], 0), (91, 1, .iconst 1, 0, 0, 0, [], 0), (92, 1, .iadd, 0, 0, 0, [], 0), (93, 3, .putfield 104, 10, 6, 0, [], 0), (96, 1, .iload_n 1, 0, 0, 0, [], 0), (97, 1, .iconst 1, 0, 0, 0, [], 0), (98, 1, .iadd, 0, 0, 0, [], 0), (99, 1, .ireturn, 0, 0, 0, [], 0)]
def mt_100 : ix_M := (⟨"CryGorge$Work", "afterStep", "(ILCryGorge$State;LCryGorge$Seasons;)I"⟩, prog_12_method_10_code, 5, (Option.some FieldType.int), 4, 10, mo_100, [])
def mo_101 : List ix_Op := [(0, 1, .aload_n 0, 0, 0, 0, [], 0), (1, 3, .getfield 15, 10, 1, 0, [], 0), (4, 1, .iload_n 1, 0, 0, 0, [], 0), (5, 1, .iaload, 0, 0, 0, [], 0), (6, 1, .istore_n 3, 0, 0, 0, [], 0), (7, 1, .aload_n 0, 0, 0, 0, [], 0), (8, 3, .getfield 9, 10, 0, 0, [], 0), (11, 1, .iload_n 1, 0, 0, 0, [], 0), (12, 1, .iaload, 0, 0, 0, [], 0), (13, 35, .tableswitch 77 0 4 #[35, 47, 53, 59, 65], 38, 0, 0, [10, 18, 22, 26, 30], 0), (48, 1, .aload_n 2, 0, 0, 0, [], 0), (49, 1, .iload_n 3, 0, 0, 0, [], 0), (50, 1, .aload_n 0, 0, 0, 0, [], 0), (51, 3, .getfield 18, 10, 2, 0, [], 0), (54, 1, .iload_n 1, 0, 0, 0, [], 0), (55, 1, .iaload, 0, 0, 0, [], 0), (56, 3, .invokevirtual 133, 86, 0, 3, [9], 0), (59, 1, .ireturn, 1, 0, 0, [], 0), (60, 1, .aload_n 2, 0, 0, 0, [], 0), (61, 1, .iload_n 3, 0, 0, 0, [], 0), (62, 3, .invokevirtual 137, 87, 0, 2, [9], 0), (65, 1, .ireturn, 1, 0, 0, [], 0), (66, 1, .aload_n 2, 0, 0, 0, [], 0), (67, 1, .iload_n 3, 0, 0, 0, [], 0), (68, 3, .invokevirtual 141, 88, 0, 2, [9], 0), (71, 1, .ireturn, 1, 0, 0, [], 0), (72, 1, .aload_n 2, 0, 0, 0, [], 0), (73, 1, .iload_n 3, 0, 0, 0, [], 0), (74, 3, .invokevirtual 144, 89, 0, 2, [9], 0), (77, 1, .ireturn, 1, 0, 0, [], 0), (78, 1, .aload_n 2, 0, 0, 0, [], 0), (79, 1, .iload_n 3, 0, 0, 0, [], 0), (80, 1, .aload_n 0, 0, 0, 0, [], 0), (81, 3, .getfield 18, 10, 2, 0, [], 0), (84, 1, .iload_n 1, 0, 0, 0, [], 0), (85, 1, .iaload, 0, 0, 0, [], 0), (86, 3, .invokevirtual 147, 90, 0, 3, [9], 0), (89, 1, .ireturn, 1, 0, 0, [], 0), (90, 1, .aload_n 2, 0, 0, 0, [], 0), (91, 1, .iload_n 3, 0, 0, 0, [], 0), (92, 3, .invokevirtual 150, 91, 0, 2, [9], 0), (95, 1, .ireturn, 1, 0, 0, [], 0)]
def mt_101 : ix_M := (⟨"CryGorge$Work", "isMade", "(ILCryGorge$State;)Z"⟩, prog_12_method_11_code, 4, (Option.some FieldType.boolean), 3, 10, mo_101, [])
def mo_102 : List ix_Op := [(0, 1, .aload_n 0, 0, 0, 0, [], 0), (1, 3, .getfield 114, 11, 16, 0, [], 0), (4, 3, .sipush 580, 0, 0, 0, [], 0), (7, 3, .if_icmp .le 5, 6, 0, 0, [], 0), (10, 1, .iconst (-1), 0, 0, 0, [], 0), (11, 1, .ireturn, 0, 0, 0, [], 0), (12, 1, .aload_n 0, 0, 0, 0, [], 0), (13, 1, .iload_n 1, 0, 0, 0, [], 0), (14, 3, .invokevirtual 117, 103, 0, 2, [11], 0), (17, 1, .aload_n 0, 0, 0, 0, [], 0), (18, 1, .iload_n 2, 0, 0, 0, [], 0), (19, 3, .invokevirtual 117, 103, 0, 2, [11], 0), (22, 1, .aload_n 0, 0, 0, 0, [], 0), (23, 1, .iload_n 3, 0, 0, 0, [], 0), (24, 3, .invokevirtual 117, 103, 0, 2, [11], 0), (27, 1, .aload_n 0, 0, 0, 0, [], 0), (28, 2, .iload 4, 0, 0, 0, [], 0), (30, 3, .invokevirtual 117, 103, 0, 2, [11], 0), (33, 1, .aload_n 0, 0, 0, 0, [], 0), (34, 2, .iload 5, 0, 0, 0, [], 0), (36, 3, .invokevirtual 117, 103, 0, 2, [11], 0), (39, 1, .aload_n 0, 0, 0, 0, [], 0), (40, 3, .getfield 114, 11, 16, 0, [], 0), (43, 1, .ireturn, 0, 0, 0, [], 0)]
def mt_102 : ix_M := (⟨"CryGorge", "feed", "(IIIII)I"⟩, prog_1_method_2_code, 6, (Option.some FieldType.int), 6, 11, mo_102, [])
def mo_103 : List ix_Op := [(0, 2, .bipush 24, 0, 0, 0, [], 0), (2, 1, .istore_n 2, 0, 0, 0, [], 0), (3, 1, .iload_n 2, 0, 0, 0, [], 0), (4, 3, .ifCond .lt 44, 27, 0, 0, [], 0), (7, 1, .aload_n 0, 0, 0, 0, [], 0), (8, 3, .getfield 114, 11, 16, 0, [], 0), (11, 1, .aload_n 0, 0, 0, 0, [], 0), (12, 3, .getfield 9, 11, 0, 0, [], 0), (15, 1, .arraylength, 0, 0, 0, [], 0), (16, 3, .if_icmp .ge 32, 27, 0, 0, [], 0), (19, 1, .aload_n 0, 0, 0, 0, [], 0), (20, 3, .getfield 9, 11, 0, 0, [], 0), (23, 1, .aload_n 0, 0, 0, 0, [], 0), (24, 3, .getfield 114, 11, 16, 0, [], 0), (27, 1, .iload_n 1, 0, 0, 0, [], 0), (28, 1, .iload_n 2, 0, 0, 0, [], 0), (29, 1, .iushr, 0, 0, 0, [], 0), (30, 1, .i2b, 0, 0, 0, [], 0), (31, 1, .bastore, 0, 0, 0, [], 0), (32, 1, .aload_n 0, 0, 0, 0, [], 0), (33, 1, .dup, 0, 0, 0, [], 0), (34, 3, .getfield 114, 11, 16, 0, [], 0), (37, 1, .iconst 1, 0, 0, 0, [], 0), (38, 1, .iadd, 0, 0, 0, [], 0), (39, 3, .putfield 114, 11, 16, 0, [], 0), (42, 3, .iinc 2 (-8), 0, 0, 0, [], 0), (45, 3, .goto (-42), 2, 0, 0, [], 0), (48, 1, .return_, 0, 0, 0, [], 0)]
def mt_103 : ix_M := (⟨"CryGorge", "putOnTape", "(I)V"⟩, prog_1_method_3_code, 3, (Option.none : Option FieldType), 2, 11, mo_103, [])
def mo_104 : List ix_Op := [(0, 1, .aload_n 0, 0, 0, 0, [], 0), (1, 1, .iload_n 1, 0, 0, 0, [], 0), (2, 3, .sipush 600, 0, 0, 0, [], 0), (5, 3, .invokevirtual 121, 109, 0, 3, [11], 0), (8, 1, .aload_n 0, 0, 0, 0, [], 0), (9, 3, .getfield 29, 11, 3, 0, [], 0), (12, 1, .aload_n 0, 0, 0, 0, [], 0), (13, 3, .getfield 18, 11, 1, 0, [], 0), (16, 3, .invokevirtual 125, 19, 0, 2, [4], 0), (19, 1, .aload_n 0, 0, 0, 0, [], 0), (20, 3, .invokevirtual 129, 110, 0, 1, [11], 0), (23, 3, .ifCond .eq 14, 18, 0, 0, [], 0), (26, 1, .aload_n 0, 0, 0, 0, [], 0), (27, 3, .getfield 18, 11, 1, 0, [], 0), (30, 3, .invokevirtual 133, 57, 0, 1, [7], 0), (33, 2, .bipush 10, 0, 0, 0, [], 0), (35, 1, .isub, 0, 0, 0, [], 0), (36, 1, .ireturn, 0, 0, 0, [], 0), (37, 1, .aload_n 0, 0, 0, 0, [], 0), (38, 3, .getfield 25, 11, 2, 0, [], 0), (41, 1, .aload_n 0, 0, 0, 0, [], 0), (42, 3, .getfield 29, 11, 3, 0, [], 0), (45, 3, .invokevirtual 137, 27, 0, 2, [4], 0), (48, 1, .aload_n 0, 0, 0, 0, [], 0), (49, 3, .invokevirtual 140, 105, 0, 1, [11], 0), (52, 1, .aload_n 0, 0, 0, 0, [], 0), (53, 3, .getfield 25, 11, 2, 0, [], 0), (56, 3, .getfield 143, 4, 7, 1, [], 0), (59, 1, .ireturn, 0, 0, 0, [], 0)]
def mt_104 : ix_M := (⟨"CryGorge", "gorge", "(I)I"⟩, prog_1_method_4_code, 2, (Option.some FieldType.int), 2, 11, mo_104, [])
def mo_105 : List ix_Op := [(0, 1, .aload_n 0, 0, 0, 0, [], 0), (1, 3, .getfield 35, 11, 4, 0, [], 0), (4, 3, .invokevirtual 146, 37, 0, 1, [5], 0), (7, 1, .aload_n 0, 0, 0, 0, [], 0), (8, 3, .getfield 45, 11, 6, 0, [], 0), (11, 3, .invokevirtual 149, 9, 0, 1, [2], 0), (14, 1, .aload_n 0, 0, 0, 0, [], 0), (15, 3, .getfield 83, 11, 12, 0, [], 0), (18, 3, .invokevirtual 152, 13, 0, 1, [3], 0), (21, 1, .aload_n 0, 0, 0, 0, [], 0), (22, 3, .getfield 73, 11, 10, 0, [], 0), (25, 3, .invokevirtual 153, 73, 0, 1, [9], 0), (28, 1, .return_, 0, 0, 0, [], 0)]
def mt_105 : ix_M := (⟨"CryGorge", "beginAnew", "()V"⟩, prog_1_method_5_code, 1, (Option.none : Option FieldType), 1, 11, mo_105, [])
def mo_106 : List ix_Op := [(0, 1, .aload_n 0, 0, 0, 0, [], 0), (1, 1, .iload_n 1, 0, 0, 0, [], 0), (2, 3, .sipush 150, 0, 0, 0, [], 0), (5, 3, .invokevirtual 121, 109, 0, 3, [11], 0), (8, 1, .aload_n 0, 0, 0, 0, [], 0), (9, 3, .getfield 39, 11, 5, 0, [], 0), (12, 1, .aload_n 0, 0, 0, 0, [], 0), (13, 3, .getfield 18, 11, 1, 0, [], 0), (16, 3, .invokevirtual 156, 40, 0, 2, [5], 0), (19, 1, .aload_n 0, 0, 0, 0, [], 0), (20, 3, .invokevirtual 129, 110, 0, 1, [11], 0), (23, 3, .ifCond .eq 14, 18, 0, 0, [], 0), (26, 1, .aload_n 0, 0, 0, 0, [], 0), (27, 3, .getfield 18, 11, 1, 0, [], 0), (30, 3, .invokevirtual 133, 57, 0, 1, [7], 0), (33, 2, .bipush 10, 0, 0, 0, [], 0), (35, 1, .isub, 0, 0, 0, [], 0), (36, 1, .ireturn, 0, 0, 0, [], 0), (37, 1, .aload_n 0, 0, 0, 0, [], 0), (38, 3, .getfield 35, 11, 4, 0, [], 0), (41, 1, .aload_n 0, 0, 0, 0, [], 0), (42, 3, .getfield 39, 11, 5, 0, [], 0), (45, 3, .invokevirtual 157, 38, 0, 2, [5], 0), (48, 1, .iconst 1, 0, 0, 0, [], 0), (49, 1, .ireturn, 0, 0, 0, [], 0)]
def mt_106 : ix_M := (⟨"CryGorge", "law", "(I)I"⟩, prog_1_method_6_code, 2, (Option.some FieldType.int), 2, 11, mo_106, [])
def mo_107 : List ix_Op := [(0, 1, .aload_n 0, 0, 0, 0, [], 0), (1, 1, .iload_n 1, 0, 0, 0, [], 0), (2, 3, .sipush 150, 0, 0, 0, [], 0), (5, 3, .invokevirtual 121, 109, 0, 3, [11], 0), (8, 1, .aload_n 0, 0, 0, 0, [], 0), (9, 3, .getfield 83, 11, 12, 0, [], 0), (12, 3, .invokevirtual 160, 14, 0, 1, [3], 0), (15, 3, .ifCond .eq 11, 13, 0, 0, [], 0), (18, 1, .aload_n 0, 0, 0, 0, [], 0), (19, 1, .iconst (-1), 0, 0, 0, [], 0), (20, 3, .putfield 110, 11, 17, 0, [], 0), (23, 2, .bipush (-20), 0, 0, 0, [], 0), (25, 1, .ireturn, 0, 0, 0, [], 0), (26, 1, .aload_n 0, 0, 0, 0, [], 0), (27, 3, .getfield 55, 11, 8, 0, [], 0), (30, 1, .aload_n 0, 0, 0, 0, [], 0), (31, 3, .getfield 18, 11, 1, 0, [], 0), (34, 1, .aload_n 0, 0, 0, 0, [], 0), (35, 3, .getfield 25, 11, 2, 0, [], 0), (38, 3, .invokevirtual 163, 93, 0, 3, [10], 0), (41, 1, .aload_n 0, 0, 0, 0, [], 0), (42, 3, .invokevirtual 129, 110, 0, 1, [11], 0), (45, 3, .ifCond .eq 14, 29, 0, 0, [], 0), (48, 1, .aload_n 0, 0, 0, 0, [], 0), (49, 3, .getfield 18, 11, 1, 0, [], 0), (52, 3, .invokevirtual 133, 57, 0, 1, [7], 0), (55, 2, .bipush 10, 0, 0, 0, [], 0), (57, 1, .isub, 0, 0, 0, [], 0), (58, 1, .ireturn, 0, 0, 0, [], 0), (59, 1, .aload_n 0, 0, 0, 0, [], 0), (60, 3, .getfield 83, 11, 12, 0, [], 0), (63, 1, .aload_n 0, 0, 0, 0, [], 0), (64, 3, .getfield 73, 11, 10, 0, [], 0), (67, 3, .invokevirtual 166, 15, 0, 2, [3], 0), (70, 1, .aload_n 0, 0, 0, 0, [], 0), (71, 3, .getfield 55, 11, 8, 0, [], 0), (74, 1, .aload_n 0, 0, 0, 0, [], 0), (75, 3, .getfield 73, 11, 10, 0, [], 0), (78, 1, .aload_n 0, 0, 0, 0, [], 0), (79, 3, .getfield 64, 11, 9, 0, [], 0), (82, 3, .invokevirtual 170, 97, 0, 3, [10], 0), (85, 1, .aload_n 0, 0, 0, 0, [], 0), (86, 3, .getfield 83, 11, 12, 0, [], 0), (89, 1, .aload_n 0, 0, 0, 0, [], 0), (90, 3, .getfield 55, 11, 8, 0, [], 0), (93, 3, .getfield 174, 10, 6, 1, [], 0), (96, 3, .putfield 177, 3, 5, 1, [], 0), (99, 1, .aload_n 0, 0, 0, 0, [], 0), (100, 3, .getfield 55, 11, 8, 0, [], 0), (103, 3, .getfield 178, 10, 5, 1, [], 0), (106, 1, .ireturn, 0, 0, 0, [], 0)]
def mt_107 : ix_M := (⟨"CryGorge", "work", "(I)I"⟩, prog_1_method_7_code, 2, (Option.some FieldType.int), 2, 11, mo_107, [])
def mo_108 : List ix_Op := [(0, 1, .aload_n 0, 0, 0, 0, [], 0), (1, 1, .iload_n 1, 0, 0, 0, [], 0), (2, 2, .bipush 60, 0, 0, 0, [], 0), (4, 3, .invokevirtual 121, 109, 0, 3, [11], 0), (7, 1, .aload_n 0, 0, 0, 0, [], 0), (8, 3, .getfield 49, 11, 7, 0, [], 0), (11, 1, .aload_n 0, 0, 0, 0, [], 0), (12, 3, .getfield 18, 11, 1, 0, [], 0), (15, 3, .invokevirtual 181, 12, 0, 2, [2], 0), (18, 1, .aload_n 0, 0, 0, 0, [], 0), (19, 3, .invokevirtual 129, 110, 0, 1, [11], 0), (22, 3, .ifCond .eq 14, 18, 0, 0, [], 0), (25, 1, .aload_n 0, 0, 0, 0, [], 0), (26, 3, .getfield 18, 11, 1, 0, [], 0), (29, 3, .invokevirtual 133, 57, 0, 1, [7], 0), (32, 2, .bipush 10, 0, 0, 0, [], 0), (34, 1, .isub, 0, 0, 0, [], 0), (35, 1, .ireturn, 0, 0, 0, [], 0), (36, 1, .aload_n 0, 0, 0, 0, [], 0), (37, 3, .getfield 45, 11, 6, 0, [], 0), (40, 1, .aload_n 0, 0, 0, 0, [], 0), (41, 3, .getfield 49, 11, 7, 0, [], 0), (44, 3, .invokevirtual 182, 10, 0, 2, [2], 0), (47, 1, .aload_n 0, 0, 0, 0, [], 0), (48, 3, .getfield 45, 11, 6, 0, [], 0), (51, 3, .getfield 185, 2, 2, 1, [], 0), (54, 1, .ireturn, 0, 0, 0, [], 0)]
def mt_108 : ix_M := (⟨"CryGorge", "heard", "(I)I"⟩, prog_1_method_8_code, 2, (Option.some FieldType.int), 2, 11, mo_108, [])
def mo_109 : List ix_Op := [(0, 1, .aload_n 0, 0, 0, 0, [], 0), (1, 1, .iload_n 1, 0, 0, 0, [], 0), (2, 3, .ifCond .lt 20, 12, 0, 0, [], 0), (5, 1, .iload_n 1, 0, 0, 0, [], 0), (6, 1, .iload_n 2, 0, 0, 0, [], 0), (7, 3, .if_icmp .gt 15, 12, 0, 0, [], 0), (10, 1, .iload_n 1, 0, 0, 0, [], 0), (11, 1, .aload_n 0, 0, 0, 0, [], 0), (12, 3, .getfield 114, 11, 16, 0, [], 0), (15, 3, .if_icmp .gt 7, 12, 0, 0, [], 0), (18, 1, .iconst 1, 0, 0, 0, [], 0), (19, 3, .goto 4, 13, 0, 0, [], 0), (22, 1, .iconst 0, 0, 0, 0, [], 0), (23, 3, .invokevirtual 188, 146, 0, 2, [11], 0), (26, 1, .aload_n 0, 0, 0, 0, [], 0), (27, 1, .iconst 0, 0, 0, 0, [], 0), (28, 3, .putfield 114, 11, 16, 0, [], 0), (31, 1, .aload_n 0, 0, 0, 0, [], 0), (32, 3, .getfield 18, 11, 1, 0, [], 0), (35, 1, .iload_n 1, 0, 0, 0, [], 0), (36, 3, .invokevirtual 192, 55, 0, 2, [7], 0), (39, 1, .return_, 0, 0, 0, [], 0)]
def mt_109 : ix_M := (⟨"CryGorge", "openText", "(II)V"⟩, prog_1_method_9_code, 3, (Option.none : Option FieldType), 3, 11, mo_109, [])
def mo_110 : List ix_Op := [(0, 1, .aload_n 0, 0, 0, 0, [], 0), (1, 1, .aload_n 0, 0, 0, 0, [], 0), (2, 3, .getfield 18, 11, 1, 0, [], 0), (5, 3, .invokevirtual 195, 56, 0, 1, [7], 0), (8, 3, .ifCond .eq 13, 9, 0, 0, [], 0), (11, 1, .aload_n 0, 0, 0, 0, [], 0), (12, 3, .getfield 18, 11, 1, 0, [], 0), (15, 3, .invokevirtual 198, 58, 0, 1, [7], 0), (18, 3, .goto 4, 10, 0, 0, [], 0), (21, 1, .iconst (-1), 0, 0, 0, [], 0), (22, 3, .putfield 110, 11, 17, 0, [], 0), (25, 1, .aload_n 0, 0, 0, 0, [], 0), (26, 3, .getfield 18, 11, 1, 0, [], 0), (29, 3, .invokevirtual 195, 56, 0, 1, [7], 0), (32, 1, .ireturn, 1, 0, 0, [], 0)]
def mt_110 : ix_M := (⟨"CryGorge", "closeText", "()Z"⟩, prog_1_method_10_code, 1, (Option.some FieldType.boolean), 1, 11, mo_110, [])
def mo_111 : List ix_Op := [(0, 1, .aload_n 0, 0, 0, 0, [], 0), (1, 3, .getfield 110, 11, 17, 0, [], 0), (4, 1, .ireturn, 0, 0, 0, [], 0)]
def mt_111 : ix_M := (⟨"CryGorge", "fault", "()I"⟩, prog_1_method_11_code, 1, (Option.some FieldType.int), 1, 11, mo_111, [])
def mo_112 : List ix_Op := [(0, 1, .aload_n 0, 0, 0, 0, [], 0), (1, 3, .getfield 83, 11, 12, 0, [], 0), (4, 1, .aload_n 0, 0, 0, 0, [], 0), (5, 3, .getfield 73, 11, 10, 0, [], 0), (8, 3, .invokevirtual 201, 16, 0, 2, [3], 0), (11, 3, .ifCond .eq 13, 10, 0, 0, [], 0), (14, 1, .aload_n 0, 0, 0, 0, [], 0), (15, 3, .getfield 83, 11, 12, 0, [], 0), (18, 3, .getfield 205, 3, 3, 1, [], 0), (21, 3, .goto 4, 11, 0, 0, [], 0), (24, 1, .iconst (-1), 0, 0, 0, [], 0), (25, 1, .ireturn, 0, 0, 0, [], 0)]
def mt_112 : ix_M := (⟨"CryGorge", "undo", "()I"⟩, prog_1_method_12_code, 1, (Option.some FieldType.int), 1, 11, mo_112, [])
def mo_113 : List ix_Op := [(0, 1, .aload_n 0, 0, 0, 0, [], 0), (1, 1, .iload_n 1, 0, 0, 0, [], 0), (2, 3, .ifCond .lt 13, 8, 0, 0, [], 0), (5, 1, .iload_n 1, 0, 0, 0, [], 0), (6, 2, .bipush 10, 0, 0, 0, [], 0), (8, 3, .if_icmp .gt 7, 8, 0, 0, [], 0), (11, 1, .iconst 1, 0, 0, 0, [], 0), (12, 3, .goto 4, 9, 0, 0, [], 0), (15, 1, .iconst 0, 0, 0, 0, [], 0), (16, 3, .invokevirtual 188, 146, 0, 2, [11], 0), (19, 1, .iload_n 1, 0, 0, 0, [], 0), (20, 56, .tableswitch 136 0 9 #[56, 64, 72, 80, 88, 96, 104, 112, 120, 128], 52, 0, 0, [12, 16, 20, 24, 28, 32, 36, 40, 44, 48], 0), (76, 1, .aload_n 0, 0, 0, 0, [], 0), (77, 3, .getfield 25, 11, 2, 0, [], 0), (80, 3, .getfield 208, 4, 6, 1, [], 0), (83, 1, .ireturn, 0, 0, 0, [], 0), (84, 1, .aload_n 0, 0, 0, 0, [], 0), (85, 3, .getfield 25, 11, 2, 0, [], 0), (88, 3, .getfield 143, 4, 7, 1, [], 0), (91, 1, .ireturn, 0, 0, 0, [], 0), (92, 1, .aload_n 0, 0, 0, 0, [], 0), (93, 3, .getfield 73, 11, 10, 0, [], 0), (96, 3, .getfield 211, 9, 6, 1, [], 0), (99, 1, .ireturn, 0, 0, 0, [], 0), (100, 1, .aload_n 0, 0, 0, 0, [], 0), (101, 3, .getfield 25, 11, 2, 0, [], 0), (104, 3, .getfield 214, 4, 8, 1, [], 0), (107, 1, .ireturn, 0, 0, 0, [], 0), (108, 1, .aload_n 0, 0, 0, 0, [], 0), (109, 3, .getfield 73, 11, 10, 0, [], 0), (112, 3, .getfield 217, 9, 5, 1, [], 0), (115, 1, .ireturn, 0, 0, 0, [], 0), (116, 1, .aload_n 0, 0, 0, 0, [], 0), (117, 3, .getfield 73, 11, 10, 0, [], 0), (120, 3, .invokevirtual 220, 78, 0, 1, [9], 0), (123, 1, .ireturn, 0, 0, 0, [], 0), (124, 1, .aload_n 0, 0, 0, 0, [], 0), (125, 3, .getfield 73, 11, 10, 0, [], 0), (128, 3, .invokevirtual 223, 79, 0, 1, [9], 0), (131, 1, .ireturn, 0, 0, 0, [], 0), (132, 1, .aload_n 0, 0, 0, 0, [], 0), (133, 3, .getfield 73, 11, 10, 0, [], 0), (136, 3, .invokevirtual 226, 80, 0, 1, [9], 0), (139, 1, .ireturn, 0, 0, 0, [], 0), (140, 1, .aload_n 0, 0, 0, 0, [], 0), (141, 3, .getfield 45, 11, 6, 0, [], 0), (144, 3, .getfield 185, 2, 2, 1, [], 0), (147, 1, .ireturn, 0, 0, 0, [], 0), (148, 1, .aload_n 0, 0, 0, 0, [], 0), (149, 3, .getfield 83, 11, 12, 0, [], 0), (152, 3, .getfield 177, 3, 5, 1, [], 0), (155, 1, .ireturn, 0, 0, 0, [], 0), (156, 1, .aload_n 0, 0, 0, 0, [], 0), (157, 3, .getfield 73, 11, 10, 0, [], 0), (160, 3, .invokevirtual 229, 82, 0, 1, [9], 0), (163, 1, .ireturn, 0, 0, 0, [], 0)]
def mt_113 : ix_M := (⟨"CryGorge", "told", "(I)I"⟩, prog_1_method_13_code, 2, (Option.some FieldType.int), 2, 11, mo_113, [])
def mo_114 : List ix_Op := [(0, 1, .aload_n 0, 0, 0, 0, [], 0), (1, 1, .iload_n 1, 0, 0, 0, [], 0), (2, 3, .invokevirtual 232, 149, 0, 2, [11], 0), (5, 1, .aload_n 0, 0, 0, 0, [], 0), (6, 1, .iload_n 2, 0, 0, 0, [], 0), (7, 3, .ifCond .lt 12, 11, 0, 0, [], 0), (10, 1, .iload_n 2, 0, 0, 0, [], 0), (11, 1, .iconst 4, 0, 0, 0, [], 0), (12, 3, .if_icmp .gt 7, 11, 0, 0, [], 0), (15, 1, .iconst 1, 0, 0, 0, [], 0), (16, 3, .goto 4, 12, 0, 0, [], 0), (19, 1, .iconst 0, 0, 0, 0, [], 0), (20, 3, .invokevirtual 188, 146, 0, 2, [11], 0), (23, 1, .iload_n 2, 0, 0, 0, [], 0), (24, 32, .tableswitch 70 0 3 #[32, 42, 52, 61], 37, 0, 0, [15, 21, 27, 32], 0), (56, 1, .aload_n 0, 0, 0, 0, [], 0), (57, 3, .getfield 25, 11, 2, 0, [], 0), (60, 3, .getfield 235, 4, 0, 1, [], 0), (63, 1, .iload_n 1, 0, 0, 0, [], 0), (64, 1, .iaload, 0, 0, 0, [], 0), (65, 1, .ireturn, 0, 0, 0, [], 0), (66, 1, .aload_n 0, 0, 0, 0, [], 0), (67, 3, .getfield 25, 11, 2, 0, [], 0), (70, 3, .getfield 239, 4, 1, 1, [], 0), (73, 1, .iload_n 1, 0, 0, 0, [], 0), (74, 1, .iaload, 0, 0, 0, [], 0), (75, 1, .ireturn, 0, 0, 0, [], 0), (76, 1, .aload_n 0, 0, 0, 0, [], 0), (77, 3, .getfield 73, 11, 10, 0, [], 0), (80, 1, .iload_n 1, 0, 0, 0, [], 0), (81, 3, .invokevirtual 242, 77, 0, 2, [9], 0), (84, 1, .ireturn, 0, 0, 0, [], 0), (85, 1, .aload_n 0, 0, 0, 0, [], 0), (86, 3, .getfield 73, 11, 10, 0, [], 0), (89, 1, .iload_n 1, 0, 0, 0, [], 0), (90, 3, .invokevirtual 246, 84, 0, 2, [9], 0), (93, 1, .ireturn, 0, 0, 0, [], 0), (94, 1, .aload_n 0, 0, 0, 0, [], 0), (95, 3, .getfield 25, 11, 2, 0, [], 0), (98, 1, .iload_n 1, 0, 0, 0, [], 0), (99, 3, .invokevirtual 249, 31, 0, 2, [4], 0), (102, 1, .ireturn, 0, 0, 0, [], 0)]
def mt_114 : ix_M := (⟨"CryGorge", "bay", "(II)I"⟩, prog_1_method_14_code, 3, (Option.some FieldType.int), 3, 11, mo_114, [])
def mo_115 : List ix_Op := [(0, 1, .aload_n 0, 0, 0, 0, [], 0), (1, 1, .iload_n 1, 0, 0, 0, [], 0), (2, 3, .invokevirtual 252, 150, 0, 2, [11], 0), (5, 1, .aload_n 0, 0, 0, 0, [], 0), (6, 1, .iload_n 2, 0, 0, 0, [], 0), (7, 3, .ifCond .lt 12, 11, 0, 0, [], 0), (10, 1, .iload_n 2, 0, 0, 0, [], 0), (11, 1, .iconst 5, 0, 0, 0, [], 0), (12, 3, .if_icmp .gt 7, 11, 0, 0, [], 0), (15, 1, .iconst 1, 0, 0, 0, [], 0), (16, 3, .goto 4, 12, 0, 0, [], 0), (19, 1, .iconst 0, 0, 0, 0, [], 0), (20, 3, .invokevirtual 188, 146, 0, 2, [11], 0), (23, 1, .iload_n 2, 0, 0, 0, [], 0), (24, 36, .tableswitch 89 0 4 #[36, 46, 56, 66, 76], 46, 0, 0, [15, 21, 27, 33, 39], 0), (60, 1, .aload_n 0, 0, 0, 0, [], 0), (61, 3, .getfield 25, 11, 2, 0, [], 0), (64, 3, .getfield 255, 4, 2, 1, [], 0), (67, 1, .iload_n 1, 0, 0, 0, [], 0), (68, 1, .iaload, 0, 0, 0, [], 0), (69, 1, .ireturn, 0, 0, 0, [], 0), (70, 1, .aload_n 0, 0, 0, 0, [], 0), (71, 3, .getfield 73, 11, 10, 0, [], 0), (74, 3, .getfield 258, 9, 1, 1, [], 0), (77, 1, .iload_n 1, 0, 0, 0, [], 0), (78, 1, .iaload, 0, 0, 0, [], 0), (79, 1, .ireturn, 0, 0, 0, [], 0), (80, 1, .aload_n 0, 0, 0, 0, [], 0), (81, 3, .getfield 73, 11, 10, 0, [], 0), (84, 3, .getfield 261, 9, 2, 1, [], 0), (87, 1, .iload_n 1, 0, 0, 0, [], 0), (88, 1, .iaload, 0, 0, 0, [], 0), (89, 1, .ireturn, 0, 0, 0, [], 0), (90, 1, .aload_n 0, 0, 0, 0, [], 0), (91, 3, .getfield 73, 11, 10, 0, [], 0), (94, 3, .getfield 264, 9, 3, 1, [], 0), (97, 1, .iload_n 1, 0, 0, 0, [], 0), (98, 1, .iaload, 0, 0, 0, [], 0), (99, 1, .ireturn, 0, 0, 0, [], 0), (100, 1, .aload_n 0, 0, 0, 0, [], 0), (101, 3, .getfield 64, 11, 9, 0, [], 0), (104, 1, .aload_n 0, 0, 0, 0, [], 0), (105, 3, .getfield 73, 11, 10, 0, [], 0), (108, 1, .iload_n 1, 0, 0, 0, [], 0), (109, 3, .invokevirtual 266, 71, 0, 3, [8], 0), (112, 1, .ireturn, 0, 0, 0, [], 0), (113, 1, .aload_n 0, 0, 0, 0, [], 0), (114, 3, .getfield 25, 11, 2, 0, [], 0), (117, 3, .getfield 270, 4, 3, 1, [], 0), (120, 1, .iload_n 1, 0, 0, 0, [], 0), (121, 1, .iaload, 0, 0, 0, [], 0), (122, 1, .ireturn, 0, 0, 0, [], 0)]
def mt_115 : ix_M := (⟨"CryGorge", "cry", "(II)I"⟩, prog_1_method_15_code, 3, (Option.some FieldType.int), 3, 11, mo_115, [])
def mo_116 : List ix_Op := [(0, 1, .aload_n 0, 0, 0, 0, [], 0), (1, 1, .iload_n 1, 0, 0, 0, [], 0), (2, 1, .iconst 0, 0, 0, 0, [], 0), (3, 2, .bipush 20, 0, 0, 0, [], 0), (5, 3, .invokevirtual 271, 147, 0, 4, [11], 0), (8, 1, .aload_n 0, 0, 0, 0, [], 0), (9, 1, .iload_n 2, 0, 0, 0, [], 0), (10, 1, .iconst 0, 0, 0, 0, [], 0), (11, 1, .iconst 3, 0, 0, 0, [], 0), (12, 3, .invokevirtual 271, 147, 0, 4, [11], 0), (15, 1, .aload_n 0, 0, 0, 0, [], 0), (16, 1, .iload_n 3, 0, 0, 0, [], 0), (17, 1, .iconst 0, 0, 0, 0, [], 0), (18, 1, .iconst 1, 0, 0, 0, [], 0), (19, 3, .invokevirtual 271, 147, 0, 4, [11], 0), (22, 1, .aload_n 0, 0, 0, 0, [], 0), (23, 2, .iload 4, 0, 0, 0, [], 0), (25, 1, .iconst 0, 0, 0, 0, [], 0), (26, 2, .bipush 99, 0, 0, 0, [], 0), (28, 3, .invokevirtual 271, 147, 0, 4, [11], 0), (31, 1, .aload_n 0, 0, 0, 0, [], 0), (32, 2, .iload 5, 0, 0, 0, [], 0), (34, 1, .iconst 0, 0, 0, 0, [], 0), (35, 2, .bipush 60, 0, 0, 0, [], 0), (37, 3, .invokevirtual 271, 147, 0, 4, [11], 0), (40, 1, .aload_n 0, 0, 0, 0, [], 0), (41, 2, .iload 6, 0, 0, 0, [], 0), (43, 1, .iconst 0, 0, 0, 0, [], 0), (44, 3, .sipush 400, 0, 0, 0, [], 0), (47, 3, .invokevirtual 271, 147, 0, 4, [11], 0), (50, 1, .aload_n 0, 0, 0, 0, [], 0), (51, 2, .iload 7, 0, 0, 0, [], 0), (53, 1, .iconst 0, 0, 0, 0, [], 0), (54, 1, .iconst 5, 0, 0, 0, [], 0), (55, 3, .invokevirtual 271, 147, 0, 4, [11], 0), (58, 1, .aload_n 0, 0, 0, 0, [], 0), (59, 2, .iload 8, 0, 0, 0, [], 0), (61, 1, .iconst 0, 0, 0, 0, [], 0), (62, 3, .sipush 300, 0, 0, 0, [], 0), (65, 3, .invokevirtual 271, 147, 0, 4, [11], 0), (68, 1, .aload_n 0, 0, 0, 0, [], 0), (69, 3, .getfield 35, 11, 4, 0, [], 0), (72, 3, .getfield 275, 5, 0, 1, [], 0), (75, 1, .iconst 0, 0, 0, 0, [], 0), (76, 1, .iload_n 1, 0, 0, 0, [], 0), (77, 1, .iastore, 0, 0, 0, [], 0), (78, 1, .aload_n 0, 0, 0, 0, [], 0), (79, 3, .getfield 35, 11, 4, 0, [], 0), (82, 3, .getfield 275, 5, 0, 1, [], 0), (85, 1, .iconst 1, 0, 0, 0, [], 0), (86, 1, .iload_n 2, 0, 0, 0, [], 0), (87, 1, .iastore, 0, 0, 0, [], 0), (88, 1, .aload_n 0, 0, 0, 0, [], 0), (89, 3, .getfield 35, 11, 4, 0, [], 0), (92, 3, .getfield 275, 5, 0, 1, [], 0), (95, 1, .iconst 2, 0, 0, 0, [], 0), (96, 1, .iload_n 3, 0, 0, 0, [], 0), (97, 1, .iastore, 0, 0, 0, [], 0), (98, 1, .aload_n 0, 0, 0, 0, [], 0), (99, 3, .getfield 35, 11, 4, 0, [], 0), (102, 3, .getfield 275, 5, 0, 1, [], 0), (105, 1, .iconst 3, 0, 0, 0, [], 0), (106, 2, .iload 4, 0, 0, 0, [], 0), (108, 1, .iastore, 0, 0, 0, [], 0), (109, 1, .aload_n 0, 0, 0, 0, [], 0), (110, 3, .getfield 35, 11, 4, 0, [], 0), (113, 3, .getfield 275, 5, 0, 1, [], 0), (116, 1, .iconst 4, 0, 0, 0, [], 0), (117, 2, .iload 5, 0, 0, 0, [], 0), (119, 1, .iastore, 0, 0, 0, [], 0), (120, 1, .aload_n 0, 0, 0, 0, [], 0), (121, 3, .getfield 35, 11, 4, 0, [], 0), (124, 3, .getfield 275, 5, 0, 1, [], 0), (127, 1, .iconst 5, 0, 0, 0, [], 0), (128, 2, .iload 6, 0, 0, 0, [], 0), (130, 1, .iastore, 0, 0, 0, [], 0), (131, 1, .aload_n 0, 0, 0, 0, [], 0), (132, 3, .getfield 35, 11, 4, 0, [], 0), (135, 3, .getfield 275, 5, 0, 1, [], 0), (138, 2, .bipush 6, 0, 0, 0, [], 0), (140, 2, .iload 7, 0, 0, 0, [], 0), (142, 1, .iastore, 0, 0, 0, [], 0), (143, 1, .aload_n 0, 0, 0, 0, [], 0), (144, 3, .getfield 35, 11, 4, 0, [], 0), (147, 3, .getfield 275, 5, 0, 1, [], 0), (150, 2, .bipush 7, 0, 0, 0, [], 0), (152, 2, .iload 8, 0, 0, 0, [], 0), (154, 1, .iastore, 0, 0, 0, [], 0), (155, 1, .aload_n 0, 0, 0, 0, [], 0), (156, 3, .getfield 35, 11, 4, 0, [], 0), (159, 3, .invokevirtual 278, 46, 0, 1, [5], 0), (162, 1, .ireturn, 0, 0, 0, [], 0)]
def mt_116 : ix_M := (⟨"CryGorge", "would", "(IIIIIIII)I"⟩, prog_1_method_16_code, 9, (Option.some FieldType.int), 9, 11, mo_116, [])
def mo_117 : List ix_Op := [(0, 1, .aload_n 0, 0, 0, 0, [], 0), (1, 1, .iload_n 1, 0, 0, 0, [], 0), (2, 1, .iconst 0, 0, 0, 0, [], 0), (3, 2, .bipush 99, 0, 0, 0, [], 0), (5, 3, .invokevirtual 271, 147, 0, 4, [11], 0), (8, 1, .aload_n 0, 0, 0, 0, [], 0), (9, 1, .iload_n 2, 0, 0, 0, [], 0), (10, 1, .iconst 0, 0, 0, 0, [], 0), (11, 1, .iconst 1, 0, 0, 0, [], 0), (12, 3, .invokevirtual 271, 147, 0, 4, [11], 0), (15, 1, .aload_n 0, 0, 0, 0, [], 0), (16, 3, .getfield 77, 11, 11, 0, [], 0), (19, 1, .aload_n 0, 0, 0, 0, [], 0), (20, 3, .getfield 73, 11, 10, 0, [], 0), (23, 3, .invokevirtual 281, 74, 0, 2, [9], 0), (26, 1, .iconst 0, 0, 0, 0, [], 0), (27, 1, .istore_n 3, 0, 0, 0, [], 0), (28, 1, .iload_n 3, 0, 0, 0, [], 0), (29, 1, .iload_n 1, 0, 0, 0, [], 0), (30, 3, .if_icmp .ge 20, 27, 0, 0, [], 0), (33, 1, .aload_n 0, 0, 0, 0, [], 0), (34, 3, .getfield 64, 11, 9, 0, [], 0), (37, 1, .aload_n 0, 0, 0, 0, [], 0), (38, 3, .getfield 77, 11, 11, 0, [], 0), (41, 3, .invokevirtual 283, 72, 0, 2, [8], 0), (44, 3, .iinc 3 1, 0, 0, 0, [], 0), (47, 3, .goto (-19), 17, 0, 0, [], 0), (50, 1, .iload_n 2, 0, 0, 0, [], 0), (51, 3, .ifCond .ne 13, 33, 0, 0, [], 0), (54, 1, .aload_n 0, 0, 0, 0, [], 0), (55, 3, .getfield 77, 11, 11, 0, [], 0), (58, 3, .invokevirtual 229, 82, 0, 1, [9], 0), (61, 3, .goto 10, 36, 0, 0, [], 0), (64, 1, .aload_n 0, 0, 0, 0, [], 0), (65, 3, .getfield 77, 11, 11, 0, [], 0), (68, 3, .invokevirtual 226, 80, 0, 1, [9], 0), (71, 1, .ireturn, 0, 0, 0, [], 0)]
def mt_117 : ix_M := (⟨"CryGorge", "ahead", "(II)I"⟩, prog_1_method_17_code, 4, (Option.some FieldType.int), 3, 11, mo_117, [])
def mo_118 : List ix_Op := [(0, 1, .aload_n 0, 0, 0, 0, [], 0), (1, 1, .iload_n 1, 0, 0, 0, [], 0), (2, 3, .invokevirtual 252, 150, 0, 2, [11], 0), (5, 1, .aload_n 0, 0, 0, 0, [], 0), (6, 3, .getfield 77, 11, 11, 0, [], 0), (9, 1, .aload_n 0, 0, 0, 0, [], 0), (10, 3, .getfield 73, 11, 10, 0, [], 0), (13, 3, .invokevirtual 281, 74, 0, 2, [9], 0), (16, 1, .iconst 0, 0, 0, 0, [], 0), (17, 1, .istore_n 2, 0, 0, 0, [], 0), (18, 1, .iload_n 2, 0, 0, 0, [], 0), (19, 2, .bipush 60, 0, 0, 0, [], 0), (21, 3, .if_icmp .gt 34, 28, 0, 0, [], 0), (24, 1, .aload_n 0, 0, 0, 0, [], 0), (25, 3, .getfield 77, 11, 11, 0, [], 0), (28, 3, .getfield 258, 9, 1, 1, [], 0), (31, 1, .iload_n 1, 0, 0, 0, [], 0), (32, 1, .iaload, 0, 0, 0, [], 0), (33, 3, .ifCond .ne 5, 21, 0, 0, [], 0), (36, 1, .iload_n 2, 0, 0, 0, [], 0), (37, 1, .ireturn, 0, 0, 0, [], 0), (38, 1, .aload_n 0, 0, 0, 0, [], 0), (39, 3, .getfield 64, 11, 9, 0, [], 0), (42, 1, .aload_n 0, 0, 0, 0, [], 0), (43, 3, .getfield 77, 11, 11, 0, [], 0), (46, 3, .invokevirtual 283, 72, 0, 2, [8], 0), (49, 3, .iinc 2 1, 0, 0, 0, [], 0), (52, 3, .goto (-34), 10, 0, 0, [], 0), (55, 1, .iconst (-1), 0, 0, 0, [], 0), (56, 1, .ireturn, 0, 0, 0, [], 0)]
def mt_118 : ix_M := (⟨"CryGorge", "lasts", "(I)I"⟩, prog_1_method_18_code, 3, (Option.some FieldType.int), 2, 11, mo_118, [])
def mo_119 : List ix_Op := [(0, 1, .aload_n 0, 0, 0, 0, [], 0), (1, 1, .iload_n 1, 0, 0, 0, [], 0), (2, 3, .invokevirtual 252, 150, 0, 2, [11], 0), (5, 1, .aload_n 0, 0, 0, 0, [], 0), (6, 3, .getfield 77, 11, 11, 0, [], 0), (9, 1, .aload_n 0, 0, 0, 0, [], 0), (10, 3, .getfield 73, 11, 10, 0, [], 0), (13, 3, .invokevirtual 281, 74, 0, 2, [9], 0), (16, 1, .aload_n 0, 0, 0, 0, [], 0), (17, 3, .getfield 73, 11, 10, 0, [], 0), (20, 3, .getfield 261, 9, 2, 1, [], 0), (23, 1, .iload_n 1, 0, 0, 0, [], 0), (24, 1, .iaload, 0, 0, 0, [], 0), (25, 1, .istore_n 2, 0, 0, 0, [], 0), (26, 1, .iload_n 2, 0, 0, 0, [], 0), (27, 1, .aload_n 0, 0, 0, 0, [], 0), (28, 3, .getfield 25, 11, 2, 0, [], 0), (31, 3, .getfield 214, 4, 8, 1, [], 0), (34, 3, .if_icmp .ge 20, 26, 0, 0, [], 0), (37, 1, .aload_n 0, 0, 0, 0, [], 0), (38, 3, .getfield 64, 11, 9, 0, [], 0), (41, 1, .aload_n 0, 0, 0, 0, [], 0), (42, 3, .getfield 77, 11, 11, 0, [], 0), (45, 3, .invokevirtual 283, 72, 0, 2, [8], 0), (48, 3, .iinc 2 1, 0, 0, 0, [], 0), (51, 3, .goto (-25), 14, 0, 0, [], 0), (54, 1, .aload_n 0, 0, 0, 0, [], 0), (55, 3, .getfield 77, 11, 11, 0, [], 0), (58, 3, .getfield 258, 9, 1, 1, [], 0), (61, 1, .iload_n 1, 0, 0, 0, [], 0), (62, 1, .iaload, 0, 0, 0, [], 0), (63, 1, .ireturn, 0, 0, 0, [], 0)]
def mt_119 : ix_M := (⟨"CryGorge", "ripe", "(I)I"⟩, prog_1_method_19_code, 3, (Option.some FieldType.int), 2, 11, mo_119, [])
def mo_120 : List ix_Op := [(0, 1, .aload_n 0, 0, 0, 0, [], 0), (1, 1, .iload_n 1, 0, 0, 0, [], 0), (2, 3, .invokevirtual 286, 122, 0, 2, [11], 0), (5, 1, .aload_n 0, 0, 0, 0, [], 0), (6, 3, .getfield 92, 11, 13, 0, [], 0), (9, 1, .iload_n 1, 0, 0, 0, [], 0), (10, 1, .aload_n 0, 0, 0, 0, [], 0), (11, 3, .getfield 73, 11, 10, 0, [], 0), (14, 3, .invokevirtual 289, 50, 0, 3, [6], 0), (17, 1, .ireturn, 0, 0, 0, [], 0)]
def mt_120 : ix_M := (⟨"CryGorge", "plan", "(I)I"⟩, prog_1_method_20_code, 2, (Option.some FieldType.int), 2, 11, mo_120, [])
def mo_121 : List ix_Op := [(0, 1, .aload_n 0, 0, 0, 0, [], 0), (1, 1, .iload_n 2, 0, 0, 0, [], 0), (2, 3, .invokevirtual 252, 150, 0, 2, [11], 0), (5, 1, .aload_n 0, 0, 0, 0, [], 0), (6, 1, .iload_n 1, 0, 0, 0, [], 0), (7, 3, .invokevirtual 286, 122, 0, 2, [11], 0), (10, 1, .iload_n 1, 0, 0, 0, [], 0), (11, 1, .iload_n 2, 0, 0, 0, [], 0), (12, 1, .ishr, 0, 0, 0, [], 0), (13, 1, .iconst 1, 0, 0, 0, [], 0), (14, 1, .iand, 0, 0, 0, [], 0), (15, 3, .ifCond .eq 19, 20, 0, 0, [], 0), (18, 1, .aload_n 0, 0, 0, 0, [], 0), (19, 3, .getfield 92, 11, 13, 0, [], 0), (22, 1, .iload_n 1, 0, 0, 0, [], 0), (23, 1, .aload_n 0, 0, 0, 0, [], 0), (24, 3, .getfield 73, 11, 10, 0, [], 0), (27, 3, .invokevirtual 289, 50, 0, 3, [6], 0), (30, 1, .iconst (-1), 0, 0, 0, [], 0), (31, 3, .if_icmp .ne 5, 22, 0, 0, [], 0), (34, 1, .iconst (-1), 0, 0, 0, [], 0), (35, 1, .ireturn, 0, 0, 0, [], 0), (36, 1, .aload_n 0, 0, 0, 0, [], 0), (37, 3, .getfield 92, 11, 13, 0, [], 0), (40, 1, .iload_n 1, 0, 0, 0, [], 0), (41, 1, .iconst 1, 0, 0, 0, [], 0), (42, 1, .iload_n 2, 0, 0, 0, [], 0), (43, 1, .ishl, 0, 0, 0, [], 0), (44, 1, .iconst 1, 0, 0, 0, [], 0), (45, 1, .isub, 0, 0, 0, [], 0), (46, 1, .iand, 0, 0, 0, [], 0), (47, 3, .invokestatic 293, 259, 1, 1, [], 0), (50, 3, .invokevirtual 298, 49, 0, 2, [6], 0), (53, 1, .ireturn, 0, 0, 0, [], 0)]
def mt_121 : ix_M := (⟨"CryGorge", "planned", "(II)I"⟩, prog_1_method_21_code, 3, (Option.some FieldType.int), 3, 11, mo_121, [])
def mo_122 : List ix_Op := [(0, 1, .aload_n 0, 0, 0, 0, [], 0), (1, 1, .iload_n 1, 0, 0, 0, [], 0), (2, 1, .aload_n 0, 0, 0, 0, [], 0), (3, 3, .getfield 25, 11, 2, 0, [], 0), (6, 3, .getfield 143, 4, 7, 1, [], 0), (9, 3, .invokevirtual 301, 148, 0, 3, [11], 0), (12, 1, .aload_n 0, 0, 0, 0, [], 0), (13, 1, .iload_n 1, 0, 0, 0, [], 0), (14, 3, .invokestatic 293, 259, 1, 1, [], 0), (17, 1, .iconst 5, 0, 0, 0, [], 0), (18, 3, .if_icmp .gt 7, 13, 0, 0, [], 0), (21, 1, .iconst 1, 0, 0, 0, [], 0), (22, 3, .goto 4, 14, 0, 0, [], 0), (25, 1, .iconst 0, 0, 0, 0, [], 0), (26, 3, .invokevirtual 188, 146, 0, 2, [11], 0), (29, 1, .return_, 0, 0, 0, [], 0)]
def mt_122 : ix_M := (⟨"CryGorge", "checkPlanned", "(I)V"⟩, prog_1_method_22_code, 2, (Option.none : Option FieldType), 2, 11, mo_122, [])
def mo_123 : List ix_Op := [(0, 1, .aload_n 0, 0, 0, 0, [], 0), (1, 1, .iload_n 1, 0, 0, 0, [], 0), (2, 1, .iconst 0, 0, 0, 0, [], 0), (3, 1, .iconst 1, 0, 0, 0, [], 0), (4, 3, .invokevirtual 271, 147, 0, 4, [11], 0), (7, 1, .aload_n 0, 0, 0, 0, [], 0), (8, 3, .getfield 99, 11, 14, 0, [], 0), (11, 1, .aload_n 0, 0, 0, 0, [], 0), (12, 3, .getfield 45, 11, 6, 0, [], 0), (15, 1, .aload_n 0, 0, 0, 0, [], 0), (16, 3, .getfield 73, 11, 10, 0, [], 0), (19, 3, .invokevirtual 304, 3, 0, 3, [1], 0), (22, 1, .iload_n 1, 0, 0, 0, [], 0), (23, 3, .ifCond .ne 13, 18, 0, 0, [], 0), (26, 1, .aload_n 0, 0, 0, 0, [], 0), (27, 3, .getfield 99, 11, 14, 0, [], 0), (30, 3, .getfield 308, 1, 7, 1, [], 0), (33, 3, .goto 10, 21, 0, 0, [], 0), (36, 1, .aload_n 0, 0, 0, 0, [], 0), (37, 3, .getfield 99, 11, 14, 0, [], 0), (40, 3, .invokevirtual 311, 2, 0, 1, [1], 0), (43, 1, .ireturn, 0, 0, 0, [], 0)]
def mt_123 : ix_M := (⟨"CryGorge", "whose", "(I)I"⟩, prog_1_method_23_code, 2, (Option.some FieldType.int), 2, 11, mo_123, [])
def mo_124 : List ix_Op := [(0, 1, .aload_n 0, 0, 0, 0, [], 0), (1, 1, .iload_n 1, 0, 0, 0, [], 0), (2, 1, .iconst 0, 0, 0, 0, [], 0), (3, 1, .iconst 1, 0, 0, 0, [], 0), (4, 3, .invokevirtual 271, 147, 0, 4, [11], 0), (7, 1, .aload_n 0, 0, 0, 0, [], 0), (8, 3, .getfield 99, 11, 14, 0, [], 0), (11, 1, .aload_n 0, 0, 0, 0, [], 0), (12, 3, .getfield 45, 11, 6, 0, [], 0), (15, 1, .aload_n 0, 0, 0, 0, [], 0), (16, 3, .getfield 73, 11, 10, 0, [], 0), (19, 3, .invokevirtual 304, 3, 0, 3, [1], 0), (22, 1, .aload_n 0, 0, 0, 0, [], 0), (23, 3, .getfield 99, 11, 14, 0, [], 0), (26, 1, .aload_n 0, 0, 0, 0, [], 0), (27, 3, .getfield 45, 11, 6, 0, [], 0), (30, 3, .invokevirtual 314, 6, 0, 2, [1], 0), (33, 1, .iload_n 1, 0, 0, 0, [], 0), (34, 3, .ifCond .ne 13, 23, 0, 0, [], 0), (37, 1, .aload_n 0, 0, 0, 0, [], 0), (38, 3, .getfield 99, 11, 14, 0, [], 0), (41, 3, .getfield 317, 1, 8, 1, [], 0), (44, 3, .goto 10, 26, 0, 0, [], 0), (47, 1, .aload_n 0, 0, 0, 0, [], 0), (48, 3, .getfield 99, 11, 14, 0, [], 0), (51, 3, .getfield 320, 1, 9, 1, [], 0), (54, 1, .ireturn, 0, 0, 0, [], 0)]
def mt_124 : ix_M := (⟨"CryGorge", "listen", "(I)I"⟩, prog_1_method_24_code, 2, (Option.some FieldType.int), 2, 11, mo_124, [])
def mo_125 : List ix_Op := [(0, 1, .aload_n 0, 0, 0, 0, [], 0), (1, 1, .iload_n 1, 0, 0, 0, [], 0), (2, 3, .invokevirtual 252, 150, 0, 2, [11], 0), (5, 1, .aload_n 0, 0, 0, 0, [], 0), (6, 1, .iload_n 2, 0, 0, 0, [], 0), (7, 3, .invokevirtual 252, 150, 0, 2, [11], 0), (10, 1, .aload_n 0, 0, 0, 0, [], 0), (11, 3, .getfield 25, 11, 2, 0, [], 0), (14, 1, .iload_n 1, 0, 0, 0, [], 0), (15, 1, .iload_n 2, 0, 0, 0, [], 0), (16, 3, .invokevirtual 323, 36, 0, 3, [4], 0), (19, 1, .ireturn, 0, 0, 0, [], 0)]
def mt_125 : ix_M := (⟨"CryGorge", "interval", "(II)I"⟩, prog_1_method_25_code, 3, (Option.some FieldType.int), 3, 11, mo_125, [])
def mo_126 : List ix_Op := [(0, 1, .aload_n 0, 0, 0, 0, [], 0), (1, 1, .iload_n 1, 0, 0, 0, [], 0), (2, 1, .iconst 0, 0, 0, 0, [], 0), (3, 2, .bipush 11, 0, 0, 0, [], 0), (5, 3, .invokevirtual 271, 147, 0, 4, [11], 0), (8, 1, .aload_n 0, 0, 0, 0, [], 0), (9, 1, .iload_n 2, 0, 0, 0, [], 0), (10, 1, .iconst 0, 0, 0, 0, [], 0), (11, 1, .iconst 1, 0, 0, 0, [], 0), (12, 3, .invokevirtual 271, 147, 0, 4, [11], 0), (15, 1, .iconst 0, 0, 0, 0, [], 0), (16, 1, .istore_n 3, 0, 0, 0, [], 0), (17, 1, .iconst (-1), 0, 0, 0, [], 0), (18, 2, .istore 4, 0, 0, 0, [], 0), (20, 1, .iconst 0, 0, 0, 0, [], 0), (21, 2, .istore 5, 0, 0, 0, [], 0), (23, 2, .iload 5, 0, 0, 0, [], 0), (25, 1, .aload_n 0, 0, 0, 0, [], 0), (26, 3, .getfield 25, 11, 2, 0, [], 0), (29, 3, .getfield 143, 4, 7, 1, [], 0), (32, 3, .if_icmp .ge 72, 53, 0, 0, [], 0), (35, 2, .iload 5, 0, 0, 0, [], 0), (37, 1, .iconst 1, 0, 0, 0, [], 0), (38, 1, .iadd, 0, 0, 0, [], 0), (39, 2, .istore 6, 0, 0, 0, [], 0), (41, 2, .iload 6, 0, 0, 0, [], 0), (43, 1, .aload_n 0, 0, 0, 0, [], 0), (44, 3, .getfield 25, 11, 2, 0, [], 0), (47, 3, .getfield 143, 4, 7, 1, [], 0), (50, 3, .if_icmp .ge 48, 51, 0, 0, [], 0), (53, 1, .aload_n 0, 0, 0, 0, [], 0), (54, 3, .getfield 25, 11, 2, 0, [], 0), (57, 2, .iload 5, 0, 0, 0, [], 0), (59, 2, .iload 6, 0, 0, 0, [], 0), (61, 3, .invokevirtual 323, 36, 0, 3, [4], 0), (64, 1, .iload_n 1, 0, 0, 0, [], 0), (65, 3, .if_icmp .ne 27, 49, 0, 0, [], 0), (68, 3, .iinc 3 1, 0, 0, 0, [], 0), (71, 2, .iload 4, 0, 0, 0, [], 0), (73, 1, .iconst (-1), 0, 0, 0, [], 0), (74, 3, .if_icmp .ne 14, 47, 0, 0, [], 0), (77, 2, .bipush 10, 0, 0, 0, [], 0), (79, 2, .iload 5, 0, 0, 0, [], 0), (81, 1, .imul, 0, 0, 0, [], 0), (82, 2, .iload 6, 0, 0, 0, [], 0), (84, 1, .iadd, 0, 0, 0, [], 0), (85, 3, .goto 5, 48, 0, 0, [], 0), (88, 2, .iload 4, 0, 0, 0, [], 0), (90, 2, .istore 4, 0, 0, 0, [], 0), (92, 3, .iinc 6 1, 0, 0, 0, [], 0), (95, 3, .goto (-54), 25, 0, 0, [], 0), (98, 3, .iinc 5 1, 0, 0, 0, [], 0), (101, 3, .goto (-78), 16, 0, 0, [], 0), (104, 1, .iload_n 2, 0, 0, 0, [], 0), (105, 3, .ifCond .ne 7, 57, 0, 0, [], 0), (108, 1, .iload_n 3, 0, 0, 0, [], 0), (109, 3, .goto 5, 58, 0, 0, [], 0), (112, 2, .iload 4, 0, 0, 0, [], 0), (114, 1, .ireturn, 0, 0, 0, [], 0)]
def mt_126 : ix_M := (⟨"CryGorge", "pairs", "(II)I"⟩, prog_1_method_26_code, 7, (Option.some FieldType.int), 3, 11, mo_126, [])
def mo_127 : List ix_Op := [(0, 1, .aload_n 0, 0, 0, 0, [], 0), (1, 1, .iload_n 1, 0, 0, 0, [], 0), (2, 1, .iconst 0, 0, 0, 0, [], 0), (3, 3, .sipush 792, 0, 0, 0, [], 0), (6, 3, .invokevirtual 271, 147, 0, 4, [11], 0), (9, 1, .aload_n 0, 0, 0, 0, [], 0), (10, 1, .iload_n 2, 0, 0, 0, [], 0), (11, 1, .iconst 0, 0, 0, 0, [], 0), (12, 1, .iconst 2, 0, 0, 0, [], 0), (13, 3, .invokevirtual 271, 147, 0, 4, [11], 0), (16, 1, .iconst 0, 0, 0, 0, [], 0), (17, 1, .istore_n 3, 0, 0, 0, [], 0), (18, 1, .iconst (-1), 0, 0, 0, [], 0), (19, 2, .istore 4, 0, 0, 0, [], 0), (21, 1, .iconst 1, 0, 0, 0, [], 0), (22, 1, .aload_n 0, 0, 0, 0, [], 0), (23, 3, .getfield 25, 11, 2, 0, [], 0), (26, 3, .getfield 143, 4, 7, 1, [], 0), (29, 1, .ishl, 0, 0, 0, [], 0), (30, 1, .iconst 1, 0, 0, 0, [], 0), (31, 1, .isub, 0, 0, 0, [], 0), (32, 2, .istore 5, 0, 0, 0, [], 0), (34, 1, .aload_n 0, 0, 0, 0, [], 0), (35, 3, .getfield 73, 11, 10, 0, [], 0), (38, 3, .invokevirtual 223, 79, 0, 1, [9], 0), (41, 2, .istore 6, 0, 0, 0, [], 0), (43, 1, .iconst 0, 0, 0, 0, [], 0), (44, 2, .istore 7, 0, 0, 0, [], 0), (46, 2, .iload 7, 0, 0, 0, [], 0), (48, 1, .iconst 1, 0, 0, 0, [], 0), (49, 1, .aload_n 0, 0, 0, 0, [], 0), (50, 3, .getfield 25, 11, 2, 0, [], 0), (53, 3, .getfield 143, 4, 7, 1, [], 0), (56, 1, .ishl, 0, 0, 0, [], 0), (57, 3, .if_icmp .ge 55, 59, 0, 0, [], 0), (60, 2, .iload 7, 0, 0, 0, [], 0), (62, 2, .iload 6, 0, 0, 0, [], 0), (64, 1, .iand, 0, 0, 0, [], 0), (65, 3, .ifCond .ne 41, 57, 0, 0, [], 0), (68, 1, .aload_n 0, 0, 0, 0, [], 0), (69, 3, .getfield 73, 11, 10, 0, [], 0), (72, 2, .iload 7, 0, 0, 0, [], 0), (74, 3, .invokevirtual 327, 81, 0, 2, [9], 0), (77, 1, .iload_n 1, 0, 0, 0, [], 0), (78, 3, .if_icmp .ne 28, 57, 0, 0, [], 0), (81, 3, .iinc 3 1, 0, 0, 0, [], 0), (84, 2, .iload 4, 0, 0, 0, [], 0), (86, 1, .iconst (-1), 0, 0, 0, [], 0), (87, 3, .if_icmp .ne 8, 51, 0, 0, [], 0), (90, 2, .iload 7, 0, 0, 0, [], 0), (92, 3, .goto 5, 52, 0, 0, [], 0), (95, 2, .iload 4, 0, 0, 0, [], 0), (97, 2, .istore 4, 0, 0, 0, [], 0), (99, 2, .iload 5, 0, 0, 0, [], 0), (101, 2, .iload 7, 0, 0, 0, [], 0), (103, 1, .iand, 0, 0, 0, [], 0), (104, 2, .istore 5, 0, 0, 0, [], 0), (106, 3, .iinc 7 1, 0, 0, 0, [], 0), (109, 3, .goto (-63), 28, 0, 0, [], 0), (112, 1, .iload_n 2, 0, 0, 0, [], 0), (113, 1, .iconst 2, 0, 0, 0, [], 0), (114, 3, .if_icmp .ne 14, 68, 0, 0, [], 0), (117, 1, .iload_n 3, 0, 0, 0, [], 0), (118, 3, .ifCond .ne 7, 66, 0, 0, [], 0), (121, 1, .iconst 0, 0, 0, 0, [], 0), (122, 3, .goto 5, 67, 0, 0, [], 0), (125, 2, .iload 5, 0, 0, 0, [], 0), (127, 1, .ireturn, 0, 0, 0, [], 0), (128, 1, .iload_n 2, 0, 0, 0, [], 0), (129, 3, .ifCond .ne 7, 72, 0, 0, [], 0), (132, 1, .iload_n 3, 0, 0, 0, [], 0), (133, 3, .goto 5, 73, 0, 0, [], 0), (136, 2, .iload 4, 0, 0, 0, [], 0), (138, 1, .ireturn, 0, 0, 0, [], 0)]
def mt_127 : ix_M := (⟨"CryGorge", "chord", "(II)I"⟩, prog_1_method_27_code, 8, (Option.some FieldType.int), 3, 11, mo_127, [])
def mo_128 : List ix_Op := [(0, 1, .aload_n 0, 0, 0, 0, [], 0), (1, 1, .iload_n 1, 0, 0, 0, [], 0), (2, 3, .invokevirtual 232, 149, 0, 2, [11], 0), (5, 1, .aload_n 0, 0, 0, 0, [], 0), (6, 1, .iload_n 2, 0, 0, 0, [], 0), (7, 3, .invokevirtual 232, 149, 0, 2, [11], 0), (10, 1, .aload_n 0, 0, 0, 0, [], 0), (11, 1, .iload_n 3, 0, 0, 0, [], 0), (12, 1, .iconst 0, 0, 0, 0, [], 0), (13, 1, .iconst 1, 0, 0, 0, [], 0), (14, 3, .invokevirtual 271, 147, 0, 4, [11], 0), (17, 1, .iload_n 3, 0, 0, 0, [], 0), (18, 3, .ifCond .ne 17, 21, 0, 0, [], 0), (21, 1, .aload_n 0, 0, 0, 0, [], 0), (22, 3, .getfield 25, 11, 2, 0, [], 0), (25, 3, .getfield 330, 4, 5, 1, [], 0), (28, 1, .iload_n 1, 0, 0, 0, [], 0), (29, 1, .aaload, 0, 0, 0, [], 0), (30, 1, .iload_n 2, 0, 0, 0, [], 0), (31, 1, .iaload, 0, 0, 0, [], 0), (32, 3, .goto 12, 26, 0, 0, [], 0), (35, 1, .aload_n 0, 0, 0, 0, [], 0), (36, 3, .getfield 25, 11, 2, 0, [], 0), (39, 1, .iload_n 1, 0, 0, 0, [], 0), (40, 1, .iload_n 2, 0, 0, 0, [], 0), (41, 3, .invokevirtual 334, 32, 0, 3, [4], 0), (44, 1, .ireturn, 0, 0, 0, [], 0)]
def mt_128 : ix_M := (⟨"CryGorge", "way", "(III)I"⟩, prog_1_method_28_code, 4, (Option.some FieldType.int), 4, 11, mo_128, [])
def mo_129 : List ix_Op := [(0, 1, .aload_n 0, 0, 0, 0, [], 0), (1, 1, .iload_n 1, 0, 0, 0, [], 0), (2, 3, .invokevirtual 232, 149, 0, 2, [11], 0), (5, 1, .aload_n 0, 0, 0, 0, [], 0), (6, 1, .iload_n 2, 0, 0, 0, [], 0), (7, 1, .aload_n 0, 0, 0, 0, [], 0), (8, 3, .getfield 25, 11, 2, 0, [], 0), (11, 3, .getfield 208, 4, 6, 1, [], 0), (14, 3, .invokevirtual 301, 148, 0, 3, [11], 0), (17, 1, .aload_n 0, 0, 0, 0, [], 0), (18, 3, .getfield 25, 11, 2, 0, [], 0), (21, 1, .iload_n 1, 0, 0, 0, [], 0), (22, 1, .iload_n 2, 0, 0, 0, [], 0), (23, 1, .iconst 1, 0, 0, 0, [], 0), (24, 1, .iload_n 1, 0, 0, 0, [], 0), (25, 1, .ishl, 0, 0, 0, [], 0), (26, 1, .iconst (-1), 0, 0, 0, [], 0), (27, 1, .ixor, 0, 0, 0, [], 0), (28, 1, .iand, 0, 0, 0, [], 0), (29, 3, .invokevirtual 337, 33, 2, 3, [4], 0), (32, 1, .ireturn, 0, 0, 0, [], 0)]
def mt_129 : ix_M := (⟨"CryGorge", "round", "(II)I"⟩, prog_1_method_29_code, 3, (Option.some FieldType.int), 3, 11, mo_129, [])
def mo_130 : List ix_Op := [(0, 1, .aload_n 0, 0, 0, 0, [], 0), (1, 3, .getfield 25, 11, 2, 0, [], 0), (4, 3, .invokevirtual 340, 34, 0, 1, [4], 0), (7, 1, .ireturn, 0, 0, 0, [], 0)]
def mt_130 : ix_M := (⟨"CryGorge", "ears", "()I"⟩, prog_1_method_30_code, 1, (Option.some FieldType.int), 1, 11, mo_130, [])
def mo_131 : List ix_Op := [(0, 1, .aload_n 0, 0, 0, 0, [], 0), (1, 1, .iload_n 1, 0, 0, 0, [], 0), (2, 1, .iconst 0, 0, 0, 0, [], 0), (3, 2, .bipush 9, 0, 0, 0, [], 0), (5, 3, .invokevirtual 271, 147, 0, 4, [11], 0), (8, 1, .aload_n 0, 0, 0, 0, [], 0), (9, 1, .iload_n 2, 0, 0, 0, [], 0), (10, 1, .iconst 0, 0, 0, 0, [], 0), (11, 2, .bipush 9, 0, 0, 0, [], 0), (13, 3, .invokevirtual 271, 147, 0, 4, [11], 0), (16, 1, .aload_n 0, 0, 0, 0, [], 0), (17, 1, .iload_n 3, 0, 0, 0, [], 0), (18, 1, .iconst 0, 0, 0, 0, [], 0), (19, 1, .iconst 2, 0, 0, 0, [], 0), (20, 3, .invokevirtual 271, 147, 0, 4, [11], 0), (23, 1, .iconst 0, 0, 0, 0, [], 0), (24, 2, .istore 4, 0, 0, 0, [], 0), (26, 1, .iconst (-1), 0, 0, 0, [], 0), (27, 2, .istore 5, 0, 0, 0, [], 0), (29, 1, .iconst 0, 0, 0, 0, [], 0), (30, 2, .istore 6, 0, 0, 0, [], 0), (32, 1, .iconst 0, 0, 0, 0, [], 0), (33, 2, .istore 7, 0, 0, 0, [], 0), (35, 2, .iload 7, 0, 0, 0, [], 0), (37, 1, .iload_n 1, 0, 0, 0, [], 0), (38, 3, .if_icmp .gt 86, 67, 0, 0, [], 0), (41, 1, .iconst 0, 0, 0, 0, [], 0), (42, 2, .istore 8, 0, 0, 0, [], 0), (44, 2, .iload 8, 0, 0, 0, [], 0), (46, 1, .iload_n 1, 0, 0, 0, [], 0), (47, 3, .if_icmp .gt 71, 65, 0, 0, [], 0), (50, 2, .iload 7, 0, 0, 0, [], 0), (52, 2, .iload 8, 0, 0, 0, [], 0), (54, 1, .iload_n 1, 0, 0, 0, [], 0), (55, 1, .iload_n 2, 0, 0, 0, [], 0), (56, 3, .invokestatic 343, 132, 1, 4, [], 0), (59, 3, .ifCond .eq 53, 63, 0, 0, [], 0), (62, 2, .iload 8, 0, 0, 0, [], 0), (64, 2, .iload 7, 0, 0, 0, [], 0), (66, 1, .iload_n 1, 0, 0, 0, [], 0), (67, 1, .iload_n 2, 0, 0, 0, [], 0), (68, 3, .invokestatic 343, 132, 1, 4, [], 0), (71, 3, .ifCond .eq 41, 63, 0, 0, [], 0), (74, 3, .iinc 4 1, 0, 0, 0, [], 0), (77, 2, .iload 5, 0, 0, 0, [], 0), (79, 1, .iconst (-1), 0, 0, 0, [], 0), (80, 3, .if_icmp .ne 32, 63, 0, 0, [], 0), (83, 2, .bipush 10, 0, 0, 0, [], 0), (85, 2, .iload 7, 0, 0, 0, [], 0), (87, 1, .imul, 0, 0, 0, [], 0), (88, 2, .iload 8, 0, 0, 0, [], 0), (90, 1, .iadd, 0, 0, 0, [], 0), (91, 2, .istore 5, 0, 0, 0, [], 0), (93, 2, .iload 7, 0, 0, 0, [], 0), (95, 2, .iload 8, 0, 0, 0, [], 0), (97, 1, .iload_n 2, 0, 0, 0, [], 0), (98, 3, .invokestatic 347, 133, 1, 3, [], 0), (101, 2, .iload 8, 0, 0, 0, [], 0), (103, 2, .iload 7, 0, 0, 0, [], 0), (105, 1, .iload_n 2, 0, 0, 0, [], 0), (106, 3, .invokestatic 347, 133, 1, 3, [], 0), (109, 1, .iadd, 0, 0, 0, [], 0), (110, 2, .istore 6, 0, 0, 0, [], 0), (112, 3, .iinc 8 1, 0, 0, 0, [], 0), (115, 3, .goto (-71), 28, 0, 0, [], 0), (118, 3, .iinc 7 1, 0, 0, 0, [], 0), (121, 3, .goto (-86), 23, 0, 0, [], 0), (124, 1, .iload_n 3, 0, 0, 0, [], 0), (125, 1, .iconst 2, 0, 0, 0, [], 0), (126, 3, .if_icmp .ne 6, 72, 0, 0, [], 0), (129, 2, .iload 6, 0, 0, 0, [], 0), (131, 1, .ireturn, 0, 0, 0, [], 0), (132, 1, .iload_n 3, 0, 0, 0, [], 0), (133, 3, .ifCond .ne 8, 76, 0, 0, [], 0), (136, 2, .iload 4, 0, 0, 0, [], 0), (138, 3, .goto 5, 77, 0, 0, [], 0), (141, 2, .iload 5, 0, 0, 0, [], 0), (143, 1, .ireturn, 0, 0, 0, [], 0)]
def mt_131 : ix_M := (⟨"CryGorge", "prices", "(III)I"⟩, prog_1_method_31_code, 9, (Option.some FieldType.int), 4, 11, mo_131, [])
def mo_132 : List ix_Op := [(0, 1, .iload_n 0, 0, 0, 0, [], 0), (1, 1, .iload_n 1, 0, 0, 0, [], 0), (2, 1, .iload_n 3, 0, 0, 0, [], 0), (3, 3, .invokestatic 347, 133, 1, 3, [], 0), (6, 2, .istore 4, 0, 0, 0, [], 0), (8, 1, .iconst 0, 0, 0, 0, [], 0), (9, 2, .istore 5, 0, 0, 0, [], 0), (11, 2, .iload 5, 0, 0, 0, [], 0), (13, 1, .iload_n 2, 0, 0, 0, [], 0), (14, 3, .if_icmp .gt 23, 20, 0, 0, [], 0), (17, 2, .iload 5, 0, 0, 0, [], 0), (19, 1, .iload_n 1, 0, 0, 0, [], 0), (20, 1, .iload_n 3, 0, 0, 0, [], 0), (21, 3, .invokestatic 347, 133, 1, 3, [], 0), (24, 2, .iload 4, 0, 0, 0, [], 0), (26, 3, .if_icmp .le 5, 18, 0, 0, [], 0), (29, 1, .iconst 0, 0, 0, 0, [], 0), (30, 1, .ireturn, 1, 0, 0, [], 0), (31, 3, .iinc 5 1, 0, 0, 0, [], 0), (34, 3, .goto (-23), 7, 0, 0, [], 0), (37, 1, .iconst 1, 0, 0, 0, [], 0), (38, 1, .ireturn, 1, 0, 0, [], 0)]
def mt_132 : ix_M := (⟨"CryGorge", "isBest", "(IIII)Z"⟩, prog_1_method_32_code, 6, (Option.some FieldType.boolean), 4, 11, mo_132, [])
def mo_133 : List ix_Op := [(0, 1, .iload_n 0, 0, 0, 0, [], 0), (1, 1, .iload_n 1, 0, 0, 0, [], 0), (2, 3, .if_icmp .ne 9, 9, 0, 0, [], 0), (5, 1, .iload_n 0, 0, 0, 0, [], 0), (6, 1, .iconst 2, 0, 0, 0, [], 0), (7, 1, .idiv, 0, 0, 0, [], 0), (8, 1, .iload_n 2, 0, 0, 0, [], 0), (9, 1, .iadd, 0, 0, 0, [], 0), (10, 1, .ireturn, 0, 0, 0, [], 0), (11, 1, .iload_n 0, 0, 0, 0, [], 0), (12, 1, .iload_n 1, 0, 0, 0, [], 0), (13, 3, .if_icmp .ge 7, 14, 0, 0, [], 0), (16, 1, .iload_n 0, 0, 0, 0, [], 0), (17, 3, .goto 4, 15, 0, 0, [], 0), (20, 1, .iconst 0, 0, 0, 0, [], 0), (21, 1, .ireturn, 0, 0, 0, [], 0)]
def mt_133 : ix_M := (⟨"CryGorge", "gain", "(III)I"⟩, prog_1_method_33_code, 3, (Option.some FieldType.int), 3, 11, mo_133, [])
def mo_134 : List ix_Op := [(0, 1, .aload_n 0, 0, 0, 0, [], 0), (1, 1, .iload_n 1, 0, 0, 0, [], 0), (2, 3, .invokevirtual 252, 150, 0, 2, [11], 0), (5, 1, .aload_n 0, 0, 0, 0, [], 0), (6, 1, .iload_n 2, 0, 0, 0, [], 0), (7, 1, .aload_n 0, 0, 0, 0, [], 0), (8, 3, .getfield 25, 11, 2, 0, [], 0), (11, 3, .getfield 143, 4, 7, 1, [], 0), (14, 3, .invokevirtual 301, 148, 0, 3, [11], 0), (17, 1, .aload_n 0, 0, 0, 0, [], 0), (18, 1, .iload_n 3, 0, 0, 0, [], 0), (19, 1, .iconst 0, 0, 0, 0, [], 0), (20, 3, .sipush 999, 0, 0, 0, [], 0), (23, 3, .invokevirtual 271, 147, 0, 4, [11], 0), (26, 1, .iload_n 2, 0, 0, 0, [], 0), (27, 1, .iload_n 1, 0, 0, 0, [], 0), (28, 1, .ishr, 0, 0, 0, [], 0), (29, 1, .iconst 1, 0, 0, 0, [], 0), (30, 1, .iand, 0, 0, 0, [], 0), (31, 3, .ifCond .ne 5, 22, 0, 0, [], 0), (34, 1, .iconst 0, 0, 0, 0, [], 0), (35, 1, .ireturn, 0, 0, 0, [], 0), (36, 1, .iconst 0, 0, 0, 0, [], 0), (37, 2, .istore 4, 0, 0, 0, [], 0), (39, 2, .iload 4, 0, 0, 0, [], 0), (41, 2, .bipush 99, 0, 0, 0, [], 0), (43, 3, .if_icmp .ge 25, 38, 0, 0, [], 0), (46, 1, .aload_n 0, 0, 0, 0, [], 0), (47, 3, .getfield 73, 11, 10, 0, [], 0), (50, 1, .iload_n 2, 0, 0, 0, [], 0), (51, 2, .iload 4, 0, 0, 0, [], 0), (53, 1, .iconst 1, 0, 0, 0, [], 0), (54, 1, .iadd, 0, 0, 0, [], 0), (55, 3, .invokevirtual 351, 83, 0, 3, [9], 0), (58, 1, .iload_n 3, 0, 0, 0, [], 0), (59, 3, .if_icmp .gt 9, 38, 0, 0, [], 0), (62, 3, .iinc 4 1, 0, 0, 0, [], 0), (65, 3, .goto (-26), 24, 0, 0, [], 0), (68, 1, .aload_n 0, 0, 0, 0, [], 0), (69, 3, .getfield 73, 11, 10, 0, [], 0), (72, 3, .getfield 258, 9, 1, 1, [], 0), (75, 1, .iload_n 1, 0, 0, 0, [], 0), (76, 1, .iaload, 0, 0, 0, [], 0), (77, 2, .iload 4, 0, 0, 0, [], 0), (79, 3, .invokestatic 354, 0, 5, 2, [], 0), (82, 1, .ireturn, 0, 0, 0, [], 0)]
def mt_134 : ix_M := (⟨"CryGorge", "share", "(III)I"⟩, prog_1_method_34_code, 5, (Option.some FieldType.int), 4, 11, mo_134, [])
def mo_135 : List ix_Op := [(0, 1, .aload_n 0, 0, 0, 0, [], 0), (1, 1, .iload_n 1, 0, 0, 0, [], 0), (2, 1, .iconst 0, 0, 0, 0, [], 0), (3, 1, .iconst 1, 0, 0, 0, [], 0), (4, 3, .invokevirtual 271, 147, 0, 4, [11], 0), (7, 1, .iconst (-1), 0, 0, 0, [], 0), (8, 1, .istore_n 2, 0, 0, 0, [], 0), (9, 1, .iconst (-1), 0, 0, 0, [], 0), (10, 1, .istore_n 3, 0, 0, 0, [], 0), (11, 1, .iconst 0, 0, 0, 0, [], 0), (12, 2, .istore 4, 0, 0, 0, [], 0), (14, 2, .iload 4, 0, 0, 0, [], 0), (16, 1, .aload_n 0, 0, 0, 0, [], 0), (17, 3, .getfield 25, 11, 2, 0, [], 0), (20, 3, .getfield 143, 4, 7, 1, [], 0), (23, 3, .if_icmp .ge 52, 40, 0, 0, [], 0), (26, 1, .aload_n 0, 0, 0, 0, [], 0), (27, 3, .getfield 73, 11, 10, 0, [], 0), (30, 3, .getfield 264, 9, 3, 1, [], 0), (33, 2, .iload 4, 0, 0, 0, [], 0), (35, 1, .iaload, 0, 0, 0, [], 0), (36, 2, .bipush (-2), 0, 0, 0, [], 0), (38, 3, .if_icmp .eq 31, 38, 0, 0, [], 0), (41, 1, .aload_n 0, 0, 0, 0, [], 0), (42, 3, .getfield 73, 11, 10, 0, [], 0), (45, 3, .getfield 258, 9, 1, 1, [], 0), (48, 2, .iload 4, 0, 0, 0, [], 0), (50, 1, .iaload, 0, 0, 0, [], 0), (51, 1, .iload_n 3, 0, 0, 0, [], 0), (52, 3, .if_icmp .le 17, 38, 0, 0, [], 0), (55, 2, .iload 4, 0, 0, 0, [], 0), (57, 1, .istore_n 2, 0, 0, 0, [], 0), (58, 1, .aload_n 0, 0, 0, 0, [], 0), (59, 3, .getfield 73, 11, 10, 0, [], 0), (62, 3, .getfield 258, 9, 1, 1, [], 0), (65, 2, .iload 4, 0, 0, 0, [], 0), (67, 1, .iaload, 0, 0, 0, [], 0), (68, 1, .istore_n 3, 0, 0, 0, [], 0), (69, 3, .iinc 4 1, 0, 0, 0, [], 0), (72, 3, .goto (-58), 11, 0, 0, [], 0), (75, 1, .iload_n 1, 0, 0, 0, [], 0), (76, 3, .ifCond .ne 7, 44, 0, 0, [], 0), (79, 1, .iload_n 2, 0, 0, 0, [], 0), (80, 3, .goto 4, 45, 0, 0, [], 0), (83, 1, .iload_n 3, 0, 0, 0, [], 0), (84, 1, .ireturn, 0, 0, 0, [], 0)]
def mt_135 : ix_M := (⟨"CryGorge", "loudest", "(I)I"⟩, prog_1_method_35_code, 5, (Option.some FieldType.int), 2, 11, mo_135, [])
def mo_136 : List ix_Op := [(0, 1, .aload_n 0, 0, 0, 0, [], 0), (1, 1, .iload_n 1, 0, 0, 0, [], 0), (2, 3, .invokevirtual 252, 150, 0, 2, [11], 0), (5, 1, .aload_n 0, 0, 0, 0, [], 0), (6, 1, .iload_n 2, 0, 0, 0, [], 0), (7, 1, .iconst 0, 0, 0, 0, [], 0), (8, 1, .iconst 1, 0, 0, 0, [], 0), (9, 3, .invokevirtual 271, 147, 0, 4, [11], 0), (12, 1, .iconst (-1), 0, 0, 0, [], 0), (13, 1, .istore_n 3, 0, 0, 0, [], 0), (14, 1, .iconst (-1), 0, 0, 0, [], 0), (15, 2, .istore 4, 0, 0, 0, [], 0), (17, 1, .iconst 0, 0, 0, 0, [], 0), (18, 2, .istore 5, 0, 0, 0, [], 0), (20, 2, .iload 5, 0, 0, 0, [], 0), (22, 1, .aload_n 0, 0, 0, 0, [], 0), (23, 3, .getfield 25, 11, 2, 0, [], 0), (26, 3, .getfield 208, 4, 6, 1, [], 0), (29, 3, .if_icmp .ge 45, 40, 0, 0, [], 0), (32, 1, .aload_n 0, 0, 0, 0, [], 0), (33, 3, .getfield 64, 11, 9, 0, [], 0), (36, 1, .aload_n 0, 0, 0, 0, [], 0), (37, 3, .getfield 73, 11, 10, 0, [], 0), (40, 1, .iload_n 1, 0, 0, 0, [], 0), (41, 2, .iload 5, 0, 0, 0, [], 0), (43, 1, .iconst 0, 0, 0, 0, [], 0), (44, 3, .invokevirtual 359, 70, 0, 5, [8], 0), (47, 2, .istore 6, 0, 0, 0, [], 0), (49, 1, .iload_n 3, 0, 0, 0, [], 0), (50, 1, .iconst (-1), 0, 0, 0, [], 0), (51, 3, .if_icmp .eq 10, 34, 0, 0, [], 0), (54, 2, .iload 6, 0, 0, 0, [], 0), (56, 2, .iload 4, 0, 0, 0, [], 0), (58, 3, .if_icmp .ge 10, 38, 0, 0, [], 0), (61, 2, .iload 5, 0, 0, 0, [], 0), (63, 1, .istore_n 3, 0, 0, 0, [], 0), (64, 2, .iload 6, 0, 0, 0, [], 0), (66, 2, .istore 4, 0, 0, 0, [], 0), (68, 3, .iinc 5 1, 0, 0, 0, [], 0), (71, 3, .goto (-51), 14, 0, 0, [], 0), (74, 1, .iload_n 2, 0, 0, 0, [], 0), (75, 3, .ifCond .ne 7, 44, 0, 0, [], 0), (78, 1, .iload_n 3, 0, 0, 0, [], 0), (79, 3, .goto 5, 45, 0, 0, [], 0), (82, 2, .iload 4, 0, 0, 0, [], 0), (84, 1, .ireturn, 0, 0, 0, [], 0)]
def mt_136 : ix_M := (⟨"CryGorge", "kindest", "(II)I"⟩, prog_1_method_36_code, 7, (Option.some FieldType.int), 3, 11, mo_136, [])
def mo_137 : List ix_Op := [(0, 1, .iconst 0, 0, 0, 0, [], 0), (1, 1, .istore_n 1, 0, 0, 0, [], 0), (2, 1, .iconst 0, 0, 0, 0, [], 0), (3, 1, .istore_n 2, 0, 0, 0, [], 0), (4, 1, .iload_n 2, 0, 0, 0, [], 0), (5, 1, .aload_n 0, 0, 0, 0, [], 0), (6, 3, .getfield 25, 11, 2, 0, [], 0), (9, 3, .getfield 143, 4, 7, 1, [], 0), (12, 3, .if_icmp .ge 26, 22, 0, 0, [], 0), (15, 1, .aload_n 0, 0, 0, 0, [], 0), (16, 3, .getfield 73, 11, 10, 0, [], 0), (19, 1, .iload_n 2, 0, 0, 0, [], 0), (20, 3, .invokevirtual 363, 85, 0, 2, [9], 0), (23, 3, .ifCond .eq 9, 20, 0, 0, [], 0), (26, 1, .iload_n 1, 0, 0, 0, [], 0), (27, 1, .iconst 1, 0, 0, 0, [], 0), (28, 1, .iload_n 2, 0, 0, 0, [], 0), (29, 1, .ishl, 0, 0, 0, [], 0), (30, 1, .ior, 0, 0, 0, [], 0), (31, 1, .istore_n 1, 0, 0, 0, [], 0), (32, 3, .iinc 2 1, 0, 0, 0, [], 0), (35, 3, .goto (-31), 4, 0, 0, [], 0), (38, 1, .iload_n 1, 0, 0, 0, [], 0), (39, 1, .ireturn, 0, 0, 0, [], 0)]
def mt_137 : ix_M := (⟨"CryGorge", "grown", "()I"⟩, prog_1_method_37_code, 3, (Option.some FieldType.int), 1, 11, mo_137, [])
def mo_138 : List ix_Op := [(0, 1, .iconst 0, 0, 0, 0, [], 0), (1, 1, .istore_n 1, 0, 0, 0, [], 0), (2, 1, .iconst 0, 0, 0, 0, [], 0), (3, 1, .istore_n 2, 0, 0, 0, [], 0), (4, 1, .iload_n 2, 0, 0, 0, [], 0), (5, 1, .aload_n 0, 0, 0, 0, [], 0), (6, 3, .getfield 25, 11, 2, 0, [], 0), (9, 3, .getfield 208, 4, 6, 1, [], 0), (12, 3, .if_icmp .ge 33, 25, 0, 0, [], 0), (15, 1, .iload_n 1, 0, 0, 0, [], 0), (16, 1, .aload_n 0, 0, 0, 0, [], 0), (17, 3, .getfield 25, 11, 2, 0, [], 0), (20, 3, .getfield 239, 4, 1, 1, [], 0), (23, 1, .iload_n 2, 0, 0, 0, [], 0), (24, 1, .iaload, 0, 0, 0, [], 0), (25, 1, .aload_n 0, 0, 0, 0, [], 0), (26, 3, .getfield 73, 11, 10, 0, [], 0), (29, 1, .iload_n 2, 0, 0, 0, [], 0), (30, 3, .invokevirtual 242, 77, 0, 2, [9], 0), (33, 3, .invokestatic 293, 259, 1, 1, [], 0), (36, 1, .isub, 0, 0, 0, [], 0), (37, 1, .iadd, 0, 0, 0, [], 0), (38, 1, .istore_n 1, 0, 0, 0, [], 0), (39, 3, .iinc 2 1, 0, 0, 0, [], 0), (42, 3, .goto (-38), 4, 0, 0, [], 0), (45, 1, .iload_n 1, 0, 0, 0, [], 0), (46, 1, .ireturn, 0, 0, 0, [], 0)]
def mt_138 : ix_M := (⟨"CryGorge", "room", "()I"⟩, prog_1_method_38_code, 3, (Option.some FieldType.int), 1, 11, mo_138, [])
def mo_139 : List ix_Op := [(0, 1, .aload_n 0, 0, 0, 0, [], 0), (1, 1, .iload_n 2, 0, 0, 0, [], 0), (2, 1, .iload_n 3, 0, 0, 0, [], 0), (3, 2, .iload 4, 0, 0, 0, [], 0), (5, 3, .invokevirtual 367, 141, 0, 4, [11], 0), (8, 1, .aload_n 0, 0, 0, 0, [], 0), (9, 2, .iload 5, 0, 0, 0, [], 0), (11, 1, .iconst 0, 0, 0, 0, [], 0), (12, 1, .iconst 3, 0, 0, 0, [], 0), (13, 3, .invokevirtual 271, 147, 0, 4, [11], 0), (16, 1, .aload_n 0, 0, 0, 0, [], 0), (17, 3, .getfield 77, 11, 11, 0, [], 0), (20, 1, .aload_n 0, 0, 0, 0, [], 0), (21, 3, .getfield 73, 11, 10, 0, [], 0), (24, 3, .invokevirtual 281, 74, 0, 2, [9], 0), (27, 1, .aload_n 0, 0, 0, 0, [], 0), (28, 3, .getfield 106, 11, 15, 0, [], 0), (31, 1, .aload_n 0, 0, 0, 0, [], 0), (32, 3, .getfield 77, 11, 11, 0, [], 0), (35, 1, .iload_n 1, 0, 0, 0, [], 0), (36, 1, .iload_n 2, 0, 0, 0, [], 0), (37, 1, .iload_n 3, 0, 0, 0, [], 0), (38, 2, .iload 4, 0, 0, 0, [], 0), (40, 3, .invokevirtual 370, 0, 0, 6, [0], 0), (43, 2, .iload 5, 0, 0, 0, [], 0), (45, 27, .tableswitch 51 0 2 #[27, 35, 43], 38, 0, 0, [26, 30, 34], 0), (72, 1, .aload_n 0, 0, 0, 0, [], 0), (73, 3, .getfield 77, 11, 11, 0, [], 0), (76, 3, .invokevirtual 229, 82, 0, 1, [9], 0), (79, 1, .ireturn, 0, 0, 0, [], 0), (80, 1, .aload_n 0, 0, 0, 0, [], 0), (81, 3, .getfield 77, 11, 11, 0, [], 0), (84, 3, .invokevirtual 226, 80, 0, 1, [9], 0), (87, 1, .ireturn, 0, 0, 0, [], 0), (88, 1, .aload_n 0, 0, 0, 0, [], 0), (89, 3, .getfield 106, 11, 15, 0, [], 0), (92, 3, .getfield 373, 0, 3, 1, [], 0), (95, 1, .ireturn, 0, 0, 0, [], 0), (96, 1, .aload_n 0, 0, 0, 0, [], 0), (97, 3, .getfield 106, 11, 15, 0, [], 0), (100, 3, .getfield 376, 0, 4, 1, [], 0), (103, 1, .ireturn, 0, 0, 0, [], 0)]
def mt_139 : ix_M := (⟨"CryGorge", "century", "(IIIII)I"⟩, prog_1_method_39_code, 6, (Option.some FieldType.int), 6, 11, mo_139, [])
def mo_140 : List ix_Op := [(0, 1, .aload_n 0, 0, 0, 0, [], 0), (1, 1, .iload_n 2, 0, 0, 0, [], 0), (2, 1, .iconst 1, 0, 0, 0, [], 0), (3, 2, .bipush 20, 0, 0, 0, [], 0), (5, 3, .invokevirtual 271, 147, 0, 4, [11], 0), (8, 1, .aload_n 0, 0, 0, 0, [], 0), (9, 1, .iload_n 3, 0, 0, 0, [], 0), (10, 2, .iload 4, 0, 0, 0, [], 0), (12, 2, .iload 5, 0, 0, 0, [], 0), (14, 3, .invokevirtual 367, 141, 0, 4, [11], 0), (17, 1, .aload_n 0, 0, 0, 0, [], 0), (18, 2, .iload 6, 0, 0, 0, [], 0), (20, 1, .iconst 0, 0, 0, 0, [], 0), (21, 1, .iconst 2, 0, 0, 0, [], 0), (22, 3, .invokevirtual 271, 147, 0, 4, [11], 0), (25, 1, .aload_n 0, 0, 0, 0, [], 0), (26, 1, .aload_n 0, 0, 0, 0, [], 0), (27, 3, .getfield 25, 11, 2, 0, [], 0), (30, 2, .iload 7, 0, 0, 0, [], 0), (32, 3, .invokevirtual 379, 26, 0, 2, [4], 0), (35, 3, .invokevirtual 188, 146, 0, 2, [11], 0), (38, 3, .sipush 792, 0, 0, 0, [], 0), (41, 2, .istore 8, 0, 0, 0, [], 0), (43, 1, .iconst 0, 0, 0, 0, [], 0), (44, 2, .istore 9, 0, 0, 0, [], 0), (46, 1, .iconst 0, 0, 0, 0, [], 0), (47, 2, .istore 10, 0, 0, 0, [], 0), (49, 1, .iconst 0, 0, 0, 0, [], 0), (50, 2, .istore 11, 0, 0, 0, [], 0), (52, 2, .iload 11, 0, 0, 0, [], 0), (54, 1, .iload_n 2, 0, 0, 0, [], 0), (55, 3, .if_icmp .ge 91, 74, 0, 0, [], 0), (58, 1, .aload_n 0, 0, 0, 0, [], 0), (59, 3, .getfield 77, 11, 11, 0, [], 0), (62, 1, .aload_n 0, 0, 0, 0, [], 0), (63, 3, .getfield 73, 11, 10, 0, [], 0), (66, 3, .invokevirtual 281, 74, 0, 2, [9], 0), (69, 1, .aload_n 0, 0, 0, 0, [], 0), (70, 3, .getfield 106, 11, 15, 0, [], 0), (73, 1, .aload_n 0, 0, 0, 0, [], 0), (74, 3, .getfield 77, 11, 11, 0, [], 0), (77, 1, .iload_n 1, 0, 0, 0, [], 0), (78, 2, .iload 11, 0, 0, 0, [], 0), (80, 1, .iadd, 0, 0, 0, [], 0), (81, 1, .iload_n 3, 0, 0, 0, [], 0), (82, 2, .iload 4, 0, 0, 0, [], 0), (84, 2, .iload 5, 0, 0, 0, [], 0), (86, 3, .invokevirtual 370, 0, 0, 6, [0], 0), (89, 2, .iload 8, 0, 0, 0, [], 0), (91, 1, .aload_n 0, 0, 0, 0, [], 0), (92, 3, .getfield 77, 11, 11, 0, [], 0), (95, 3, .invokevirtual 229, 82, 0, 1, [9], 0), (98, 3, .invokestatic 354, 0, 5, 2, [], 0), (101, 2, .istore 8, 0, 0, 0, [], 0), (103, 2, .iload 9, 0, 0, 0, [], 0), (105, 1, .aload_n 0, 0, 0, 0, [], 0), (106, 3, .getfield 77, 11, 11, 0, [], 0), (109, 3, .invokevirtual 229, 82, 0, 1, [9], 0), (112, 3, .invokestatic 382, 0, 4, 2, [], 0), (115, 2, .istore 9, 0, 0, 0, [], 0), (117, 2, .iload 10, 0, 0, 0, [], 0), (119, 1, .aload_n 0, 0, 0, 0, [], 0), (120, 3, .getfield 77, 11, 11, 0, [], 0), (123, 3, .getfield 258, 9, 1, 1, [], 0), (126, 2, .iload 7, 0, 0, 0, [], 0), (128, 1, .iaload, 0, 0, 0, [], 0), (129, 3, .ifCond .le 7, 69, 0, 0, [], 0), (132, 1, .iconst 1, 0, 0, 0, [], 0), (133, 3, .goto 4, 70, 0, 0, [], 0), (136, 1, .iconst 0, 0, 0, 0, [], 0), (137, 1, .iadd, 0, 0, 0, [], 0), (138, 2, .istore 10, 0, 0, 0, [], 0), (140, 3, .iinc 11 1, 0, 0, 0, [], 0), (143, 3, .goto (-91), 29, 0, 0, [], 0), (146, 2, .iload 6, 0, 0, 0, [], 0), (148, 1, .iconst 2, 0, 0, 0, [], 0), (149, 3, .if_icmp .ne 6, 79, 0, 0, [], 0), (152, 2, .iload 10, 0, 0, 0, [], 0), (154, 1, .ireturn, 0, 0, 0, [], 0), (155, 2, .iload 6, 0, 0, 0, [], 0), (157, 3, .ifCond .ne 8, 83, 0, 0, [], 0), (160, 2, .iload 8, 0, 0, 0, [], 0), (162, 3, .goto 5, 84, 0, 0, [], 0), (165, 2, .iload 9, 0, 0, 0, [], 0), (167, 1, .ireturn, 0, 0, 0, [], 0)]
def mt_140 : ix_M := (⟨"CryGorge", "span", "(IIIIIII)I"⟩, prog_1_method_40_code, 12, (Option.some FieldType.int), 8, 11, mo_140, [])
def mo_141 : List ix_Op := [(0, 1, .aload_n 0, 0, 0, 0, [], 0), (1, 1, .iload_n 1, 0, 0, 0, [], 0), (2, 1, .iconst 1, 0, 0, 0, [], 0), (3, 2, .bipush 96, 0, 0, 0, [], 0), (5, 3, .invokevirtual 271, 147, 0, 4, [11], 0), (8, 1, .aload_n 0, 0, 0, 0, [], 0), (9, 1, .iload_n 2, 0, 0, 0, [], 0), (10, 1, .iconst 0, 0, 0, 0, [], 0), (11, 2, .bipush 16, 0, 0, 0, [], 0), (13, 3, .invokevirtual 271, 147, 0, 4, [11], 0), (16, 1, .aload_n 0, 0, 0, 0, [], 0), (17, 1, .iload_n 3, 0, 0, 0, [], 0), (18, 1, .iconst 0, 0, 0, 0, [], 0), (19, 2, .bipush 16, 0, 0, 0, [], 0), (21, 3, .invokevirtual 271, 147, 0, 4, [11], 0), (24, 1, .return_, 0, 0, 0, [], 0)]
def mt_141 : ix_M := (⟨"CryGorge", "checkFate", "(III)V"⟩, prog_1_method_41_code, 4, (Option.none : Option FieldType), 4, 11, mo_141, [])
def mo_142 : List ix_Op := [(0, 1, .aload_n 0, 0, 0, 0, [], 0), (1, 3, .getfield 83, 11, 12, 0, [], 0), (4, 1, .aload_n 0, 0, 0, 0, [], 0), (5, 3, .getfield 73, 11, 10, 0, [], 0), (8, 3, .invokevirtual 385, 17, 0, 2, [3], 0), (11, 3, .ifCond .eq 13, 10, 0, 0, [], 0), (14, 1, .aload_n 0, 0, 0, 0, [], 0), (15, 3, .getfield 83, 11, 12, 0, [], 0), (18, 3, .getfield 388, 3, 4, 1, [], 0), (21, 3, .goto 4, 11, 0, 0, [], 0), (24, 1, .iconst (-1), 0, 0, 0, [], 0), (25, 1, .ireturn, 0, 0, 0, [], 0)]
def mt_142 : ix_M := (⟨"CryGorge", "image", "()I"⟩, prog_1_method_42_code, 1, (Option.some FieldType.int), 1, 11, mo_142, [])
def mo_143 : List ix_Op := [(0, 1, .aload_n 0, 0, 0, 0, [], 0), (1, 3, .getfield 83, 11, 12, 0, [], 0), (4, 1, .aload_n 0, 0, 0, 0, [], 0), (5, 3, .getfield 73, 11, 10, 0, [], 0), (8, 3, .invokevirtual 391, 18, 0, 2, [3], 0), (11, 3, .ifCond .eq 13, 10, 0, 0, [], 0), (14, 1, .aload_n 0, 0, 0, 0, [], 0), (15, 3, .getfield 83, 11, 12, 0, [], 0), (18, 3, .getfield 388, 3, 4, 1, [], 0), (21, 3, .goto 4, 11, 0, 0, [], 0), (24, 1, .iconst (-1), 0, 0, 0, [], 0), (25, 1, .ireturn, 0, 0, 0, [], 0)]
def mt_143 : ix_M := (⟨"CryGorge", "restore", "()I"⟩, prog_1_method_43_code, 1, (Option.some FieldType.int), 1, 11, mo_143, [])
def mo_144 : List ix_Op := [(0, 1, .iload_n 1, 0, 0, 0, [], 0), (1, 3, .ifCond .ne 8, 5, 0, 0, [], 0), (4, 1, .aload_n 0, 0, 0, 0, [], 0), (5, 3, .getfield 394, 11, 18, 0, [], 0), (8, 1, .ireturn, 0, 0, 0, [], 0), (9, 1, .iload_n 1, 0, 0, 0, [], 0), (10, 1, .iconst 1, 0, 0, 0, [], 0), (11, 3, .if_icmp .ne 10, 11, 0, 0, [], 0), (14, 1, .aload_n 0, 0, 0, 0, [], 0), (15, 3, .getfield 397, 11, 19, 0, [], 0), (18, 3, .goto 4, 12, 0, 0, [], 0), (21, 1, .iconst (-1), 0, 0, 0, [], 0), (22, 1, .ireturn, 0, 0, 0, [], 0)]
def mt_144 : ix_M := (⟨"CryGorge", "status", "(I)I"⟩, prog_1_method_44_code, 2, (Option.some FieldType.int), 2, 11, mo_144, [])
def mo_145 : List ix_Op := [(0, 1, .iload_n 1, 0, 0, 0, [], 0), (1, 27, .tableswitch 48 0 2 #[27, 35, 40], 13, 0, 0, [2, 6, 9], 0), (28, 1, .aload_n 0, 0, 0, 0, [], 0), (29, 3, .getfield 83, 11, 12, 0, [], 0), (32, 3, .getfield 388, 3, 4, 1, [], 0), (35, 1, .ireturn, 0, 0, 0, [], 0), (36, 1, .aload_n 0, 0, 0, 0, [], 0), (37, 3, .getfield 114, 11, 16, 0, [], 0), (40, 1, .ireturn, 0, 0, 0, [], 0), (41, 1, .aload_n 0, 0, 0, 0, [], 0), (42, 3, .getfield 83, 11, 12, 0, [], 0), (45, 3, .getfield 205, 3, 3, 1, [], 0), (48, 1, .ireturn, 0, 0, 0, [], 0), (49, 1, .iconst (-1), 0, 0, 0, [], 0), (50, 1, .ireturn, 0, 0, 0, [], 0)]
def mt_145 : ix_M := (⟨"CryGorge", "count", "(I)I"⟩, prog_1_method_45_code, 2, (Option.some FieldType.int), 2, 11, mo_145, [])
def mo_146 : List ix_Op := [(0, 1, .iload_n 1, 0, 0, 0, [], 0), (1, 3, .ifCond .ne 24, 13, 0, 0, [], 0), (4, 1, .aload_n 0, 0, 0, 0, [], 0), (5, 1, .dup, 0, 0, 0, [], 0), (6, 3, .getfield 397, 11, 19, 0, [], 0), (9, 1, .iconst 1, 0, 0, 0, [], 0), (10, 1, .iadd, 0, 0, 0, [], 0), (11, 3, .putfield 397, 11, 19, 0, [], 0), (14, 3, .new 400, 0, 1, 0, [], 0), (17, 1, .dup, 0, 0, 0, [], 0), (18, 3, .ldc_w 402, 0, 0, 2, [], 0), (21, 3, .invokespecial 404, 0, 0, 0, [], 0), (24, 1, .athrow, 0, 0, 0, [], 0), (25, 1, .return_, 0, 0, 0, [], 0)]
def mt_146 : ix_M := (⟨"CryGorge", "checkArgument", "(Z)V"⟩, prog_1_method_46_code, 2, (Option.none : Option FieldType), 2, 11, mo_146, [])
def mo_147 : List ix_Op := [(0, 1, .aload_n 0, 0, 0, 0, [], 0), (1, 1, .iload_n 1, 0, 0, 0, [], 0), (2, 1, .iload_n 2, 0, 0, 0, [], 0), (3, 3, .if_icmp .lt 12, 9, 0, 0, [], 0), (6, 1, .iload_n 1, 0, 0, 0, [], 0), (7, 1, .iload_n 3, 0, 0, 0, [], 0), (8, 3, .if_icmp .gt 7, 9, 0, 0, [], 0), (11, 1, .iconst 1, 0, 0, 0, [], 0), (12, 3, .goto 4, 10, 0, 0, [], 0), (15, 1, .iconst 0, 0, 0, 0, [], 0), (16, 3, .invokevirtual 188, 146, 0, 2, [11], 0), (19, 1, .return_, 0, 0, 0, [], 0)]
def mt_147 : ix_M := (⟨"CryGorge", "checkRange", "(III)V"⟩, prog_1_method_47_code, 4, (Option.none : Option FieldType), 4, 11, mo_147, [])
def mo_148 : List ix_Op := [(0, 1, .aload_n 0, 0, 0, 0, [], 0), (1, 1, .iload_n 1, 0, 0, 0, [], 0), (2, 3, .ifCond .lt 13, 9, 0, 0, [], 0), (5, 1, .iload_n 1, 0, 0, 0, [], 0), (6, 1, .iload_n 2, 0, 0, 0, [], 0), (7, 1, .ishr, 0, 0, 0, [], 0), (8, 3, .ifCond .ne 7, 9, 0, 0, [], 0), (11, 1, .iconst 1, 0, 0, 0, [], 0), (12, 3, .goto 4, 10, 0, 0, [], 0), (15, 1, .iconst 0, 0, 0, 0, [], 0), (16, 3, .invokevirtual 188, 146, 0, 2, [11], 0), (19, 1, .return_, 0, 0, 0, [], 0)]
def mt_148 : ix_M := (⟨"CryGorge", "checkBits", "(II)V"⟩, prog_1_method_48_code, 3, (Option.none : Option FieldType), 3, 11, mo_148, [])
def mo_149 : List ix_Op := [(0, 1, .aload_n 0, 0, 0, 0, [], 0), (1, 1, .aload_n 0, 0, 0, 0, [], 0), (2, 3, .getfield 25, 11, 2, 0, [], 0), (5, 1, .iload_n 1, 0, 0, 0, [], 0), (6, 3, .invokevirtual 407, 25, 0, 2, [4], 0), (9, 3, .invokevirtual 410, 151, 0, 2, [11], 0), (12, 1, .return_, 0, 0, 0, [], 0)]
def mt_149 : ix_M := (⟨"CryGorge", "checkBay", "(I)V"⟩, prog_1_method_49_code, 2, (Option.none : Option FieldType), 2, 11, mo_149, [])
def mo_150 : List ix_Op := [(0, 1, .aload_n 0, 0, 0, 0, [], 0), (1, 1, .aload_n 0, 0, 0, 0, [], 0), (2, 3, .getfield 25, 11, 2, 0, [], 0), (5, 1, .iload_n 1, 0, 0, 0, [], 0), (6, 3, .invokevirtual 379, 26, 0, 2, [4], 0), (9, 3, .invokevirtual 410, 151, 0, 2, [11], 0), (12, 1, .return_, 0, 0, 0, [], 0)]
def mt_150 : ix_M := (⟨"CryGorge", "checkCry", "(I)V"⟩, prog_1_method_50_code, 2, (Option.none : Option FieldType), 2, 11, mo_150, [])
def mo_151 : List ix_Op := [(0, 1, .iload_n 1, 0, 0, 0, [], 0), (1, 3, .ifCond .ne 24, 13, 0, 0, [], 0), (4, 1, .aload_n 0, 0, 0, 0, [], 0), (5, 1, .dup, 0, 0, 0, [], 0), (6, 3, .getfield 394, 11, 18, 0, [], 0), (9, 1, .iconst 1, 0, 0, 0, [], 0), (10, 1, .iadd, 0, 0, 0, [], 0), (11, 3, .putfield 394, 11, 18, 0, [], 0), (14, 3, .new 413, 1, 1, 0, [], 0), (17, 1, .dup, 0, 0, 0, [], 0), (18, 3, .ldc_w 415, 0, 0, 2, [], 0), (21, 3, .invokespecial 417, 0, 0, 0, [], 0), (24, 1, .athrow, 0, 0, 0, [], 0), (25, 1, .return_, 0, 0, 0, [], 0)]
def mt_151 : ix_M := (⟨"CryGorge", "checkElement", "(Z)V"⟩, prog_1_method_51_code, 2, (Option.none : Option FieldType), 2, 11, mo_151, [])
def mo_152 : List ix_Op := [(0, 1, .aload_n 0, 0, 0, 0, [], 0), (1, 3, .getfield 20, 12, 11, 0, [], 0), (4, 1, .iconst 0, 0, 0, 0, [], 0), (5, 1, .iconst 0, 0, 0, 0, [], 0), (6, 1, .iastore, 0, 0, 0, [], 0), (7, 1, .aload_n 0, 0, 0, 0, [], 0), (8, 3, .getfield 20, 12, 11, 0, [], 0), (11, 1, .iconst 1, 0, 0, 0, [], 0), (12, 1, .iconst 0, 0, 0, 0, [], 0), (13, 1, .iastore, 0, 0, 0, [], 0), (14, 1, .aload_n 0, 0, 0, 0, [], 0), (15, 3, .getfield 20, 12, 11, 0, [], 0), (18, 1, .iconst 2, 0, 0, 0, [], 0), (19, 2, .bipush 21, 0, 0, 0, [], 0), (21, 1, .iastore, 0, 0, 0, [], 0), (22, 1, .aload_n 0, 0, 0, 0, [], 0), (23, 3, .getfield 20, 12, 11, 0, [], 0), (26, 1, .iconst 3, 0, 0, 0, [], 0), (27, 1, .iconst 3, 0, 0, 0, [], 0), (28, 1, .iastore, 0, 0, 0, [], 0), (29, 1, .iconst 0, 0, 0, 0, [], 0), (30, 1, .istore_n 1, 0, 0, 0, [], 0), (31, 1, .iload_n 1, 0, 0, 0, [], 0), (32, 2, .bipush 6, 0, 0, 0, [], 0), (34, 3, .if_icmp .ge 32, 41, 0, 0, [], 0), (37, 1, .iconst 0, 0, 0, 0, [], 0), (38, 1, .istore_n 2, 0, 0, 0, [], 0), (39, 1, .iload_n 2, 0, 0, 0, [], 0), (40, 2, .bipush 6, 0, 0, 0, [], 0), (42, 3, .if_icmp .ge 18, 39, 0, 0, [], 0), (45, 1, .aload_n 0, 0, 0, 0, [], 0), (46, 3, .getfield 40, 12, 17, 0, [], 0), (49, 1, .iload_n 1, 0, 0, 0, [], 0), (50, 1, .aaload, 0, 0, 0, [], 0), (51, 1, .iload_n 2, 0, 0, 0, [], 0), (52, 1, .iconst 0, 0, 0, 0, [], 0), (53, 1, .iastore, 0, 0, 0, [], 0), (54, 3, .iinc 2 1, 0, 0, 0, [], 0), (57, 3, .goto (-18), 27, 0, 0, [], 0), (60, 3, .iinc 1 1, 0, 0, 0, [], 0), (63, 3, .goto (-32), 22, 0, 0, [], 0), (66, 1, .return_, 0, 0, 0, [], 0)]
def mt_152 : ix_M := (⟨"CryGorgeModel", "tellsNothing", "()V"⟩, prog_14_method_2_code, 3, (Option.none : Option FieldType), 1, 12, mo_152, [])
def mo_153 : List ix_Op := [(0, 1, .aload_n 0, 0, 0, 0, [], 0), (1, 3, .getfield 103, 12, 0, 0, [], 0), (4, 1, .ireturn, 0, 0, 0, [], 0)]
def mt_153 : ix_M := (⟨"CryGorgeModel", "thrown", "()I"⟩, prog_14_method_3_code, 1, (Option.some FieldType.int), 1, 12, mo_153, [])
def mo_154 : List ix_Op := [(0, 1, .iload_n 1, 0, 0, 0, [], 0), (1, 3, .ifCond .eq 25, 16, 0, 0, [], 0), (4, 1, .aload_n 0, 0, 0, 0, [], 0), (5, 3, .getfield 103, 12, 0, 0, [], 0), (8, 3, .ifCond .ne 18, 16, 0, 0, [], 0), (11, 1, .aload_n 0, 0, 0, 0, [], 0), (12, 1, .iload_n 2, 0, 0, 0, [], 0), (13, 3, .putfield 103, 12, 0, 0, [], 0), (16, 1, .aload_n 0, 0, 0, 0, [], 0), (17, 3, .getfield 17, 12, 10, 0, [], 0), (20, 1, .iload_n 3, 0, 0, 0, [], 0), (21, 1, .dup2, 0, 0, 0, [], 0), (22, 1, .iaload, 0, 0, 0, [], 0), (23, 1, .iconst 1, 0, 0, 0, [], 0), (24, 1, .iadd, 0, 0, 0, [], 0), (25, 1, .iastore, 0, 0, 0, [], 0), (26, 1, .aload_n 0, 0, 0, 0, [], 0), (27, 3, .getfield 103, 12, 0, 0, [], 0), (30, 3, .ifCond .eq 7, 21, 0, 0, [], 0), (33, 1, .iconst 1, 0, 0, 0, [], 0), (34, 3, .goto 4, 22, 0, 0, [], 0), (37, 1, .iconst 0, 0, 0, 0, [], 0), (38, 1, .ireturn, 1, 0, 0, [], 0)]
def mt_154 : ix_M := (⟨"CryGorgeModel", "bad", "(ZII)Z"⟩, prog_14_method_4_code, 4, (Option.some FieldType.boolean), 4, 12, mo_154, [])
def mo_155 : List ix_Op := [(0, 1, .iload_n 0, 0, 0, 0, [], 0), (1, 1, .iload_n 1, 0, 0, 0, [], 0), (2, 3, .if_icmp .lt 12, 8, 0, 0, [], 0), (5, 1, .iload_n 0, 0, 0, 0, [], 0), (6, 1, .iload_n 2, 0, 0, 0, [], 0), (7, 3, .if_icmp .gt 7, 8, 0, 0, [], 0), (10, 1, .iconst 1, 0, 0, 0, [], 0), (11, 3, .goto 4, 9, 0, 0, [], 0), (14, 1, .iconst 0, 0, 0, 0, [], 0), (15, 1, .ireturn, 1, 0, 0, [], 0)]
def mt_155 : ix_M := (⟨"CryGorgeModel", "in", "(III)Z"⟩, prog_14_method_5_code, 3, (Option.some FieldType.boolean), 3, 12, mo_155, [])
def mo_156 : List ix_Op := [(0, 1, .iload_n 0, 0, 0, 0, [], 0), (1, 1, .iload_n 1, 0, 0, 0, [], 0), (2, 3, .if_icmp .ge 7, 5, 0, 0, [], 0), (5, 1, .iload_n 0, 0, 0, 0, [], 0), (6, 3, .goto 4, 6, 0, 0, [], 0), (9, 1, .iload_n 1, 0, 0, 0, [], 0), (10, 1, .ireturn, 0, 0, 0, [], 0)]
def mt_156 : ix_M := (⟨"CryGorgeModel", "less", "(II)I"⟩, prog_14_method_6_code, 2, (Option.some FieldType.int), 2, 12, mo_156, [])
def mo_157 : List ix_Op := [(0, 1, .iload_n 0, 0, 0, 0, [], 0), (1, 1, .iload_n 1, 0, 0, 0, [], 0), (2, 3, .if_icmp .le 7, 5, 0, 0, [], 0), (5, 1, .iload_n 0, 0, 0, 0, [], 0), (6, 3, .goto 4, 6, 0, 0, [], 0), (9, 1, .iload_n 1, 0, 0, 0, [], 0), (10, 1, .ireturn, 0, 0, 0, [], 0)]
def mt_157 : ix_M := (⟨"CryGorgeModel", "more", "(II)I"⟩, prog_14_method_7_code, 2, (Option.some FieldType.int), 2, 12, mo_157, [])
def mo_158 : List ix_Op := [(0, 1, .iload_n 0, 0, 0, 0, [], 0), (1, 1, .iload_n 1, 0, 0, 0, [], 0), (2, 1, .ishr, 0, 0, 0, [], 0), (3, 1, .iconst 1, 0, 0, 0, [], 0), (4, 1, .iand, 0, 0, 0, [], 0), (5, 1, .iconst 1, 0, 0, 0, [], 0), (6, 3, .if_icmp .ne 7, 9, 0, 0, [], 0), (9, 1, .iconst 1, 0, 0, 0, [], 0), (10, 3, .goto 4, 10, 0, 0, [], 0), (13, 1, .iconst 0, 0, 0, 0, [], 0), (14, 1, .ireturn, 1, 0, 0, [], 0)]
def mt_158 : ix_M := (⟨"CryGorgeModel", "has", "(II)Z"⟩, prog_14_method_8_code, 2, (Option.some FieldType.boolean), 2, 12, mo_158, [])
def mo_159 : List ix_Op := [(0, 1, .aload_n 0, 0, 0, 0, [], 0), (1, 1, .iconst 0, 0, 0, 0, [], 0), (2, 3, .putfield 103, 12, 0, 0, [], 0), (5, 1, .aload_n 0, 0, 0, 0, [], 0), (6, 3, .getfield 106, 12, 1, 0, [], 0), (9, 2, .bipush 20, 0, 0, 0, [], 0), (11, 1, .iadd, 0, 0, 0, [], 0), (12, 3, .sipush 600, 0, 0, 0, [], 0), (15, 3, .if_icmp .le 5, 11, 0, 0, [], 0), (18, 1, .iconst (-1), 0, 0, 0, [], 0), (19, 1, .ireturn, 0, 0, 0, [], 0), (20, 1, .iconst 0, 0, 0, 0, [], 0), (21, 2, .istore 6, 0, 0, 0, [], 0), (23, 2, .iload 6, 0, 0, 0, [], 0), (25, 2, .bipush 20, 0, 0, 0, [], 0), (27, 3, .if_icmp .ge 93, 62, 0, 0, [], 0), (30, 2, .iload 6, 0, 0, 0, [], 0), (32, 1, .iconst 4, 0, 0, 0, [], 0), (33, 3, .if_icmp .ge 7, 21, 0, 0, [], 0), (36, 1, .iload_n 1, 0, 0, 0, [], 0), (37, 3, .goto 39, 37, 0, 0, [], 0), (40, 2, .iload 6, 0, 0, 0, [], 0), (42, 2, .bipush 8, 0, 0, 0, [], 0), (44, 3, .if_icmp .ge 7, 26, 0, 0, [], 0), (47, 1, .iload_n 2, 0, 0, 0, [], 0), (48, 3, .goto 28, 37, 0, 0, [], 0), (51, 2, .iload 6, 0, 0, 0, [], 0), (53, 2, .bipush 12, 0, 0, 0, [], 0), (55, 3, .if_icmp .ge 7, 31, 0, 0, [], 0), (58, 1, .iload_n 3, 0, 0, 0, [], 0), (59, 3, .goto 17, 37, 0, 0, [], 0), (62, 2, .iload 6, 0, 0, 0, [], 0), (64, 2, .bipush 16, 0, 0, 0, [], 0), (66, 3, .if_icmp .ge 8, 36, 0, 0, [], 0), (69, 2, .iload 4, 0, 0, 0, [], 0), (71, 3, .goto 5, 37, 0, 0, [], 0), (74, 2, .iload 5, 0, 0, 0, [], 0), (76, 2, .istore 7, 0, 0, 0, [], 0), (78, 1, .aload_n 0, 0, 0, 0, [], 0), (79, 3, .getfield 13, 12, 9, 0, [], 0), (82, 1, .aload_n 0, 0, 0, 0, [], 0), (83, 3, .getfield 106, 12, 1, 0, [], 0), (86, 2, .iload 7, 0, 0, 0, [], 0), (88, 2, .bipush 24, 0, 0, 0, [], 0), (90, 2, .bipush 8, 0, 0, 0, [], 0), (92, 2, .iload 6, 0, 0, 0, [], 0), (94, 1, .iconst 4, 0, 0, 0, [], 0), (95, 1, .irem, 0, 0, 0, [], 0), (96, 1, .imul, 0, 0, 0, [], 0), (97, 1, .isub, 0, 0, 0, [], 0), (98, 1, .ishr, 0, 0, 0, [], 0), (99, 3, .sipush 255, 0, 0, 0, [], 0), (102, 1, .iand, 0, 0, 0, [], 0), (103, 1, .iastore, 0, 0, 0, [], 0), (104, 1, .aload_n 0, 0, 0, 0, [], 0), (105, 1, .dup, 0, 0, 0, [], 0), (106, 3, .getfield 106, 12, 1, 0, [], 0), (109, 1, .iconst 1, 0, 0, 0, [], 0), (110, 1, .iadd, 0, 0, 0, [], 0), (111, 3, .putfield 106, 12, 1, 0, [], 0), (114, 3, .iinc 6 1, 0, 0, 0, [], 0), (117, 3, .goto (-94), 13, 0, 0, [], 0), (120, 1, .aload_n 0, 0, 0, 0, [], 0), (121, 3, .getfield 106, 12, 1, 0, [], 0), (124, 1, .ireturn, 0, 0, 0, [], 0)]
def mt_159 : ix_M := (⟨"CryGorgeModel", "feed", "(IIIII)I"⟩, prog_14_method_9_code, 8, (Option.some FieldType.int), 6, 12, mo_159, [])
def mo_160 : List ix_Op := [(0, 1, .iload_n 1, 0, 0, 0, [], 0), (1, 1, .aload_n 0, 0, 0, 0, [], 0), (2, 3, .getfield 109, 12, 2, 0, [], 0), (5, 3, .if_icmp .lt 7, 6, 0, 0, [], 0), (8, 1, .iconst (-1), 0, 0, 0, [], 0), (9, 3, .goto 9, 10, 0, 0, [], 0), (12, 1, .aload_n 0, 0, 0, 0, [], 0), (13, 3, .getfield 13, 12, 9, 0, [], 0), (16, 1, .iload_n 1, 0, 0, 0, [], 0), (17, 1, .iaload, 0, 0, 0, [], 0), (18, 1, .ireturn, 0, 0, 0, [], 0)]
def mt_160 : ix_M := (⟨"CryGorgeModel", "byteAt", "(I)I"⟩, prog_14_method_10_code, 2, (Option.some FieldType.int), 2, 12, mo_160, [])
def mo_161 : List ix_Op := [(0, 1, .aload_n 0, 0, 0, 0, [], 0), (1, 1, .aload_n 0, 0, 0, 0, [], 0), (2, 3, .getfield 112, 12, 4, 0, [], 0), (5, 3, .invokevirtual 115, 160, 0, 2, [12], 0), (8, 2, .bipush 32, 0, 0, 0, [], 0), (10, 3, .if_icmp .ne 16, 13, 0, 0, [], 0), (13, 1, .aload_n 0, 0, 0, 0, [], 0), (14, 1, .dup, 0, 0, 0, [], 0), (15, 3, .getfield 112, 12, 4, 0, [], 0), (18, 1, .iconst 1, 0, 0, 0, [], 0), (19, 1, .iadd, 0, 0, 0, [], 0), (20, 3, .putfield 112, 12, 4, 0, [], 0), (23, 3, .goto (-23), 0, 0, 0, [], 0), (26, 1, .return_, 0, 0, 0, [], 0)]
def mt_161 : ix_M := (⟨"CryGorgeModel", "blanks", "()V"⟩, prog_14_method_11_code, 1, (Option.none : Option FieldType), 1, 12, mo_161, [])
def mo_162 : List ix_Op := [(0, 1, .aload_n 0, 0, 0, 0, [], 0), (1, 3, .getfield 119, 12, 5, 0, [], 0), (4, 3, .ifCond .ne 13, 9, 0, 0, [], 0), (7, 1, .aload_n 0, 0, 0, 0, [], 0), (8, 1, .iload_n 1, 0, 0, 0, [], 0), (9, 3, .putfield 119, 12, 5, 0, [], 0), (12, 1, .aload_n 0, 0, 0, 0, [], 0), (13, 1, .iload_n 2, 0, 0, 0, [], 0), (14, 3, .putfield 122, 12, 6, 0, [], 0), (17, 1, .return_, 0, 0, 0, [], 0)]
def mt_162 : ix_M := (⟨"CryGorgeModel", "wrong", "(II)V"⟩, prog_14_method_12_code, 3, (Option.none : Option FieldType), 3, 12, mo_162, [])
def mo_163 : List ix_Op := [(0, 1, .iload_n 0, 0, 0, 0, [], 0), (1, 2, .bipush 48, 0, 0, 0, [], 0), (3, 3, .if_icmp .lt 13, 8, 0, 0, [], 0), (6, 1, .iload_n 0, 0, 0, 0, [], 0), (7, 2, .bipush 57, 0, 0, 0, [], 0), (9, 3, .if_icmp .gt 7, 8, 0, 0, [], 0), (12, 1, .iconst 1, 0, 0, 0, [], 0), (13, 3, .goto 4, 9, 0, 0, [], 0), (16, 1, .iconst 0, 0, 0, 0, [], 0), (17, 1, .ireturn, 1, 0, 0, [], 0)]
def mt_163 : ix_M := (⟨"CryGorgeModel", "isDigit", "(I)Z"⟩, prog_14_method_13_code, 1, (Option.some FieldType.boolean), 1, 12, mo_163, [])
def mo_164 : List ix_Op := [(0, 1, .iload_n 0, 0, 0, 0, [], 0), (1, 2, .bipush 97, 0, 0, 0, [], 0), (3, 3, .if_icmp .lt 13, 8, 0, 0, [], 0), (6, 1, .iload_n 0, 0, 0, 0, [], 0), (7, 2, .bipush 122, 0, 0, 0, [], 0), (9, 3, .if_icmp .gt 7, 8, 0, 0, [], 0), (12, 1, .iconst 1, 0, 0, 0, [], 0), (13, 3, .goto 4, 9, 0, 0, [], 0), (16, 1, .iconst 0, 0, 0, 0, [], 0), (17, 1, .ireturn, 1, 0, 0, [], 0)]
def mt_164 : ix_M := (⟨"CryGorgeModel", "isSmall", "(I)Z"⟩, prog_14_method_14_code, 1, (Option.some FieldType.boolean), 1, 12, mo_164, [])
def mo_165 : List ix_Op := [(0, 1, .aload_n 0, 0, 0, 0, [], 0), (1, 3, .getfield 119, 12, 5, 0, [], 0), (4, 3, .ifCond .eq 5, 5, 0, 0, [], 0), (7, 1, .iconst 0, 0, 0, 0, [], 0), (8, 1, .ireturn, 0, 0, 0, [], 0), (9, 1, .aload_n 0, 0, 0, 0, [], 0), (10, 3, .invokevirtual 125, 161, 0, 1, [12], 0), (13, 1, .aload_n 0, 0, 0, 0, [], 0), (14, 3, .getfield 112, 12, 4, 0, [], 0), (17, 1, .istore_n 3, 0, 0, 0, [], 0), (18, 1, .iconst 0, 0, 0, 0, [], 0), (19, 2, .istore 4, 0, 0, 0, [], 0), (21, 1, .aload_n 0, 0, 0, 0, [], 0), (22, 1, .aload_n 0, 0, 0, 0, [], 0), (23, 3, .getfield 112, 12, 4, 0, [], 0), (26, 3, .invokevirtual 115, 160, 0, 2, [12], 0), (29, 3, .invokestatic 128, 163, 1, 1, [], 0), (32, 3, .ifCond .ne 12, 23, 0, 0, [], 0), (35, 1, .aload_n 0, 0, 0, 0, [], 0), (36, 1, .iconst 1, 0, 0, 0, [], 0), (37, 1, .aload_n 0, 0, 0, 0, [], 0), (38, 3, .getfield 112, 12, 4, 0, [], 0), (41, 3, .invokevirtual 132, 162, 0, 3, [12], 0), (44, 1, .aload_n 0, 0, 0, 0, [], 0), (45, 1, .aload_n 0, 0, 0, 0, [], 0), (46, 3, .getfield 112, 12, 4, 0, [], 0), (49, 3, .invokevirtual 115, 160, 0, 2, [12], 0), (52, 3, .invokestatic 128, 163, 1, 1, [], 0), (55, 3, .ifCond .eq 51, 54, 0, 0, [], 0), (58, 2, .bipush 10, 0, 0, 0, [], 0), (60, 2, .iload 4, 0, 0, 0, [], 0), (62, 1, .imul, 0, 0, 0, [], 0), (63, 1, .aload_n 0, 0, 0, 0, [], 0), (64, 1, .aload_n 0, 0, 0, 0, [], 0), (65, 3, .getfield 112, 12, 4, 0, [], 0), (68, 3, .invokevirtual 115, 160, 0, 2, [12], 0), (71, 1, .iadd, 0, 0, 0, [], 0), (72, 2, .bipush 48, 0, 0, 0, [], 0), (74, 1, .isub, 0, 0, 0, [], 0), (75, 2, .istore 4, 0, 0, 0, [], 0), (77, 2, .iload 4, 0, 0, 0, [], 0), (79, 2, .ldc 136, 0, 0, 0, [], 100000), (81, 3, .if_icmp .le 8, 45, 0, 0, [], 0), (84, 2, .ldc 136, 0, 0, 0, [], 100000), (86, 3, .goto 5, 46, 0, 0, [], 0), (89, 2, .iload 4, 0, 0, 0, [], 0), (91, 2, .istore 4, 0, 0, 0, [], 0), (93, 1, .aload_n 0, 0, 0, 0, [], 0), (94, 1, .dup, 0, 0, 0, [], 0), (95, 3, .getfield 112, 12, 4, 0, [], 0), (98, 1, .iconst 1, 0, 0, 0, [], 0), (99, 1, .iadd, 0, 0, 0, [], 0), (100, 3, .putfield 112, 12, 4, 0, [], 0), (103, 3, .goto (-59), 23, 0, 0, [], 0), (106, 2, .iload 4, 0, 0, 0, [], 0), (108, 1, .iload_n 1, 0, 0, 0, [], 0), (109, 1, .iload_n 2, 0, 0, 0, [], 0), (110, 3, .invokestatic 137, 155, 1, 3, [], 0), (113, 3, .ifCond .ne 9, 63, 0, 0, [], 0), (116, 1, .aload_n 0, 0, 0, 0, [], 0), (117, 1, .iconst 2, 0, 0, 0, [], 0), (118, 1, .iload_n 3, 0, 0, 0, [], 0), (119, 3, .invokevirtual 132, 162, 0, 3, [12], 0), (122, 1, .aload_n 0, 0, 0, 0, [], 0), (123, 3, .getfield 119, 12, 5, 0, [], 0), (126, 3, .ifCond .ne 8, 68, 0, 0, [], 0), (129, 2, .iload 4, 0, 0, 0, [], 0), (131, 3, .goto 4, 69, 0, 0, [], 0), (134, 1, .iconst 0, 0, 0, 0, [], 0), (135, 1, .ireturn, 0, 0, 0, [], 0)]
def mt_165 : ix_M := (⟨"CryGorgeModel", "number", "(II)I"⟩, prog_14_method_15_code, 5, (Option.some FieldType.int), 3, 12, mo_165, [])
def mo_166 : List ix_Op := [(0, 1, .aload_n 0, 0, 0, 0, [], 0), (1, 3, .invokevirtual 125, 161, 0, 1, [12], 0), (4, 1, .iconst 0, 0, 0, 0, [], 0), (5, 1, .istore_n 1, 0, 0, 0, [], 0), (6, 1, .iconst 0, 0, 0, 0, [], 0), (7, 1, .istore_n 2, 0, 0, 0, [], 0), (8, 1, .aload_n 0, 0, 0, 0, [], 0), (9, 1, .aload_n 0, 0, 0, 0, [], 0), (10, 3, .getfield 112, 12, 4, 0, [], 0), (13, 1, .iload_n 2, 0, 0, 0, [], 0), (14, 1, .iadd, 0, 0, 0, [], 0), (15, 3, .invokevirtual 115, 160, 0, 2, [12], 0), (18, 3, .invokestatic 141, 164, 1, 1, [], 0), (21, 3, .ifCond .eq 40, 36, 0, 0, [], 0), (24, 1, .iload_n 2, 0, 0, 0, [], 0), (25, 2, .bipush 6, 0, 0, 0, [], 0), (27, 3, .if_icmp .ge 26, 32, 0, 0, [], 0), (30, 2, .bipush 27, 0, 0, 0, [], 0), (32, 1, .iload_n 1, 0, 0, 0, [], 0), (33, 1, .imul, 0, 0, 0, [], 0), (34, 1, .aload_n 0, 0, 0, 0, [], 0), (35, 1, .aload_n 0, 0, 0, 0, [], 0), (36, 3, .getfield 112, 12, 4, 0, [], 0), (39, 1, .iload_n 2, 0, 0, 0, [], 0), (40, 1, .iadd, 0, 0, 0, [], 0), (41, 3, .invokevirtual 115, 160, 0, 2, [12], 0), (44, 1, .iadd, 0, 0, 0, [], 0), (45, 2, .bipush 97, 0, 0, 0, [], 0), (47, 1, .isub, 0, 0, 0, [], 0), (48, 1, .iconst 1, 0, 0, 0, [], 0), (49, 1, .iadd, 0, 0, 0, [], 0), (50, 3, .goto 4, 33, 0, 0, [], 0), (53, 1, .iload_n 1, 0, 0, 0, [], 0), (54, 1, .istore_n 1, 0, 0, 0, [], 0), (55, 3, .iinc 2 1, 0, 0, 0, [], 0), (58, 3, .goto (-50), 6, 0, 0, [], 0), (61, 1, .iload_n 2, 0, 0, 0, [], 0), (62, 2, .bipush 6, 0, 0, 0, [], 0), (64, 3, .if_icmp .le 7, 41, 0, 0, [], 0), (67, 1, .iconst (-1), 0, 0, 0, [], 0), (68, 3, .goto 4, 42, 0, 0, [], 0), (71, 1, .iload_n 1, 0, 0, 0, [], 0), (72, 1, .ireturn, 0, 0, 0, [], 0)]
def mt_166 : ix_M := (⟨"CryGorgeModel", "wordHere", "()I"⟩, prog_14_method_16_code, 3, (Option.some FieldType.int), 1, 12, mo_166, [])
def mo_167 : List ix_Op := [(0, 2, .bipush 27, 0, 0, 0, [], 0), (2, 2, .bipush 27, 0, 0, 0, [], 0), (4, 1, .iload_n 0, 0, 0, 0, [], 0), (5, 1, .imul, 0, 0, 0, [], 0), (6, 1, .iload_n 1, 0, 0, 0, [], 0), (7, 1, .iadd, 0, 0, 0, [], 0), (8, 1, .imul, 0, 0, 0, [], 0), (9, 1, .iload_n 2, 0, 0, 0, [], 0), (10, 1, .iadd, 0, 0, 0, [], 0), (11, 2, .istore 6, 0, 0, 0, [], 0), (13, 1, .iload_n 3, 0, 0, 0, [], 0), (14, 3, .ifCond .ne 8, 14, 0, 0, [], 0), (17, 2, .iload 6, 0, 0, 0, [], 0), (19, 3, .goto 10, 19, 0, 0, [], 0), (22, 2, .bipush 27, 0, 0, 0, [], 0), (24, 2, .iload 6, 0, 0, 0, [], 0), (26, 1, .imul, 0, 0, 0, [], 0), (27, 1, .iload_n 3, 0, 0, 0, [], 0), (28, 1, .iadd, 0, 0, 0, [], 0), (29, 2, .istore 6, 0, 0, 0, [], 0), (31, 2, .iload 4, 0, 0, 0, [], 0), (33, 3, .ifCond .ne 8, 24, 0, 0, [], 0), (36, 2, .iload 6, 0, 0, 0, [], 0), (38, 3, .goto 11, 29, 0, 0, [], 0), (41, 2, .bipush 27, 0, 0, 0, [], 0), (43, 2, .iload 6, 0, 0, 0, [], 0), (45, 1, .imul, 0, 0, 0, [], 0), (46, 2, .iload 4, 0, 0, 0, [], 0), (48, 1, .iadd, 0, 0, 0, [], 0), (49, 2, .istore 6, 0, 0, 0, [], 0), (51, 2, .iload 5, 0, 0, 0, [], 0), (53, 3, .ifCond .ne 8, 34, 0, 0, [], 0), (56, 2, .iload 6, 0, 0, 0, [], 0), (58, 3, .goto 11, 39, 0, 0, [], 0), (61, 2, .bipush 27, 0, 0, 0, [], 0), (63, 2, .iload 6, 0, 0, 0, [], 0), (65, 1, .imul, 0, 0, 0, [], 0), (66, 2, .iload 5, 0, 0, 0, [], 0), (68, 1, .iadd, 0, 0, 0, [], 0), (69, 1, .ireturn, 0, 0, 0, [], 0)]
def mt_167 : ix_M := (⟨"CryGorgeModel", "six", "(IIIIII)I"⟩, prog_14_method_17_code, 7, (Option.some FieldType.int), 6, 12, mo_167, [])
def mo_168 : List ix_Op := [(0, 1, .aload_n 0, 0, 0, 0, [], 0), (1, 3, .getfield 119, 12, 5, 0, [], 0), (4, 3, .ifCond .ne 26, 15, 0, 0, [], 0), (7, 1, .aload_n 0, 0, 0, 0, [], 0), (8, 3, .invokevirtual 144, 166, 0, 1, [12], 0), (11, 1, .iload_n 1, 0, 0, 0, [], 0), (12, 1, .iload_n 2, 0, 0, 0, [], 0), (13, 1, .iload_n 3, 0, 0, 0, [], 0), (14, 2, .iload 4, 0, 0, 0, [], 0), (16, 2, .iload 5, 0, 0, 0, [], 0), (18, 2, .iload 6, 0, 0, 0, [], 0), (20, 3, .invokestatic 148, 167, 1, 6, [], 0), (23, 3, .if_icmp .ne 7, 15, 0, 0, [], 0), (26, 1, .iconst 1, 0, 0, 0, [], 0), (27, 3, .goto 4, 16, 0, 0, [], 0), (30, 1, .iconst 0, 0, 0, 0, [], 0), (31, 1, .ireturn, 1, 0, 0, [], 0)]
def mt_168 : ix_M := (⟨"CryGorgeModel", "isWord", "(IIIIII)Z"⟩, prog_14_method_18_code, 7, (Option.some FieldType.boolean), 7, 12, mo_168, [])
def mo_169 : List ix_Op := [(0, 1, .aload_n 0, 0, 0, 0, [], 0), (1, 1, .aload_n 0, 0, 0, 0, [], 0), (2, 3, .getfield 112, 12, 4, 0, [], 0), (5, 3, .invokevirtual 115, 160, 0, 2, [12], 0), (8, 3, .invokestatic 141, 164, 1, 1, [], 0), (11, 3, .ifCond .eq 16, 13, 0, 0, [], 0), (14, 1, .aload_n 0, 0, 0, 0, [], 0), (15, 1, .dup, 0, 0, 0, [], 0), (16, 3, .getfield 112, 12, 4, 0, [], 0), (19, 1, .iconst 1, 0, 0, 0, [], 0), (20, 1, .iadd, 0, 0, 0, [], 0), (21, 3, .putfield 112, 12, 4, 0, [], 0), (24, 3, .goto (-24), 0, 0, 0, [], 0), (27, 1, .return_, 0, 0, 0, [], 0)]
def mt_169 : ix_M := (⟨"CryGorgeModel", "skipWord", "()V"⟩, prog_14_method_19_code, 1, (Option.none : Option FieldType), 1, 12, mo_169, [])
def mo_170 : List ix_Op := [(0, 1, .aload_n 0, 0, 0, 0, [], 0), (1, 1, .iload_n 1, 0, 0, 0, [], 0), (2, 1, .iload_n 2, 0, 0, 0, [], 0), (3, 1, .iload_n 3, 0, 0, 0, [], 0), (4, 2, .iload 4, 0, 0, 0, [], 0), (6, 2, .iload 5, 0, 0, 0, [], 0), (8, 2, .iload 6, 0, 0, 0, [], 0), (10, 3, .invokevirtual 152, 168, 0, 7, [12], 0), (13, 2, .istore 7, 0, 0, 0, [], 0), (15, 2, .iload 7, 0, 0, 0, [], 0), (17, 3, .ifCond .eq 7, 13, 0, 0, [], 0), (20, 1, .aload_n 0, 0, 0, 0, [], 0), (21, 3, .invokevirtual 156, 169, 0, 1, [12], 0), (24, 2, .iload 7, 0, 0, 0, [], 0), (26, 1, .ireturn, 1, 0, 0, [], 0)]
def mt_170 : ix_M := (⟨"CryGorgeModel", "takes", "(IIIIII)Z"⟩, prog_14_method_20_code, 8, (Option.some FieldType.boolean), 7, 12, mo_170, [])
def mo_171 : List ix_Op := [(0, 1, .aload_n 0, 0, 0, 0, [], 0), (1, 3, .getfield 119, 12, 5, 0, [], 0), (4, 3, .ifCond .eq 4, 4, 0, 0, [], 0), (7, 1, .return_, 0, 0, 0, [], 0), (8, 1, .aload_n 0, 0, 0, 0, [], 0), (9, 3, .invokevirtual 125, 161, 0, 1, [12], 0), (12, 1, .aload_n 0, 0, 0, 0, [], 0), (13, 1, .aload_n 0, 0, 0, 0, [], 0), (14, 3, .getfield 112, 12, 4, 0, [], 0), (17, 3, .invokevirtual 115, 160, 0, 2, [12], 0), (20, 1, .iload_n 1, 0, 0, 0, [], 0), (21, 3, .if_icmp .ne 16, 19, 0, 0, [], 0), (24, 1, .aload_n 0, 0, 0, 0, [], 0), (25, 1, .dup, 0, 0, 0, [], 0), (26, 3, .getfield 112, 12, 4, 0, [], 0), (29, 1, .iconst 1, 0, 0, 0, [], 0), (30, 1, .iadd, 0, 0, 0, [], 0), (31, 3, .putfield 112, 12, 4, 0, [], 0), (34, 3, .goto 12, 24, 0, 0, [], 0), (37, 1, .aload_n 0, 0, 0, 0, [], 0), (38, 1, .iconst 1, 0, 0, 0, [], 0), (39, 1, .aload_n 0, 0, 0, 0, [], 0), (40, 3, .getfield 112, 12, 4, 0, [], 0), (43, 3, .invokevirtual 132, 162, 0, 3, [12], 0), (46, 1, .return_, 0, 0, 0, [], 0)]
def mt_171 : ix_M := (⟨"CryGorgeModel", "sign", "(I)V"⟩, prog_14_method_21_code, 2, (Option.none : Option FieldType), 2, 12, mo_171, [])
def mo_172 : List ix_Op := [(0, 1, .aload_n 0, 0, 0, 0, [], 0), (1, 3, .getfield 119, 12, 5, 0, [], 0), (4, 3, .ifCond .eq 5, 5, 0, 0, [], 0), (7, 1, .iconst 0, 0, 0, 0, [], 0), (8, 1, .ireturn, 1, 0, 0, [], 0), (9, 1, .aload_n 0, 0, 0, 0, [], 0), (10, 3, .invokevirtual 125, 161, 0, 1, [12], 0), (13, 1, .aload_n 0, 0, 0, 0, [], 0), (14, 1, .aload_n 0, 0, 0, 0, [], 0), (15, 3, .getfield 112, 12, 4, 0, [], 0), (18, 3, .invokevirtual 115, 160, 0, 2, [12], 0), (21, 1, .iload_n 1, 0, 0, 0, [], 0), (22, 3, .if_icmp .ne 7, 15, 0, 0, [], 0), (25, 1, .iconst 1, 0, 0, 0, [], 0), (26, 3, .goto 4, 16, 0, 0, [], 0), (29, 1, .iconst 0, 0, 0, 0, [], 0), (30, 1, .istore_n 2, 0, 0, 0, [], 0), (31, 1, .iload_n 2, 0, 0, 0, [], 0), (32, 3, .ifCond .eq 13, 25, 0, 0, [], 0), (35, 1, .aload_n 0, 0, 0, 0, [], 0), (36, 1, .dup, 0, 0, 0, [], 0), (37, 3, .getfield 112, 12, 4, 0, [], 0), (40, 1, .iconst 1, 0, 0, 0, [], 0), (41, 1, .iadd, 0, 0, 0, [], 0), (42, 3, .putfield 112, 12, 4, 0, [], 0), (45, 1, .iload_n 2, 0, 0, 0, [], 0), (46, 1, .ireturn, 1, 0, 0, [], 0)]
def mt_172 : ix_M := (⟨"CryGorgeModel", "takesSign", "(I)Z"⟩, prog_14_method_22_code, 3, (Option.some FieldType.boolean), 2, 12, mo_172, [])
def mo_173 : List ix_Op := [(0, 1, .aload_n 0, 0, 0, 0, [], 0), (1, 1, .iconst 0, 0, 0, 0, [], 0), (2, 3, .putfield 106, 12, 1, 0, [], 0), (5, 1, .aload_n 0, 0, 0, 0, [], 0), (6, 1, .iload_n 1, 0, 0, 0, [], 0), (7, 3, .putfield 109, 12, 2, 0, [], 0), (10, 1, .aload_n 0, 0, 0, 0, [], 0), (11, 1, .iconst 0, 0, 0, 0, [], 0), (12, 3, .putfield 112, 12, 4, 0, [], 0), (15, 1, .aload_n 0, 0, 0, 0, [], 0), (16, 1, .iconst 0, 0, 0, 0, [], 0), (17, 3, .putfield 119, 12, 5, 0, [], 0), (20, 1, .aload_n 0, 0, 0, 0, [], 0), (21, 1, .iconst (-1), 0, 0, 0, [], 0), (22, 3, .putfield 122, 12, 6, 0, [], 0), (25, 1, .aload_n 0, 0, 0, 0, [], 0), (26, 1, .iconst 0, 0, 0, 0, [], 0), (27, 3, .putfield 159, 12, 7, 0, [], 0), (30, 1, .aload_n 0, 0, 0, 0, [], 0), (31, 1, .iconst 0, 0, 0, 0, [], 0), (32, 3, .putfield 162, 12, 8, 0, [], 0), (35, 1, .aload_n 0, 0, 0, 0, [], 0), (36, 3, .invokevirtual 125, 161, 0, 1, [12], 0), (39, 1, .return_, 0, 0, 0, [], 0)]
def mt_173 : ix_M := (⟨"CryGorgeModel", "starts", "(I)V"⟩, prog_14_method_23_code, 2, (Option.none : Option FieldType), 2, 12, mo_173, [])
def mo_174 : List ix_Op := [(0, 1, .aload_n 0, 0, 0, 0, [], 0), (1, 1, .aload_n 0, 0, 0, 0, [], 0), (2, 3, .getfield 122, 12, 6, 0, [], 0), (5, 3, .putfield 9, 12, 3, 0, [], 0), (8, 1, .aload_n 0, 0, 0, 0, [], 0), (9, 3, .getfield 119, 12, 5, 0, [], 0), (12, 2, .bipush 10, 0, 0, 0, [], 0), (14, 1, .isub, 0, 0, 0, [], 0), (15, 1, .ireturn, 0, 0, 0, [], 0)]
def mt_174 : ix_M := (⟨"CryGorgeModel", "ends", "()I"⟩, prog_14_method_24_code, 1, (Option.some FieldType.int), 1, 12, mo_174, [])
def mo_175 : List ix_Op := [(0, 1, .aload_n 0, 0, 0, 0, [], 0), (1, 1, .iconst 2, 0, 0, 0, [], 0), (2, 1, .iconst 1, 0, 0, 0, [], 0), (3, 2, .bipush 25, 0, 0, 0, [], 0), (5, 1, .iconst 0, 0, 0, 0, [], 0), (6, 1, .iconst 0, 0, 0, 0, [], 0), (7, 1, .iconst 0, 0, 0, 0, [], 0), (8, 3, .invokevirtual 152, 168, 0, 7, [12], 0), (11, 3, .ifCond .eq 5, 11, 0, 0, [], 0), (14, 1, .iconst 0, 0, 0, 0, [], 0), (15, 1, .ireturn, 0, 0, 0, [], 0), (16, 1, .aload_n 0, 0, 0, 0, [], 0), (17, 1, .iconst 3, 0, 0, 0, [], 0), (18, 2, .bipush 18, 0, 0, 0, [], 0), (20, 2, .bipush 25, 0, 0, 0, [], 0), (22, 1, .iconst 0, 0, 0, 0, [], 0), (23, 1, .iconst 0, 0, 0, 0, [], 0), (24, 1, .iconst 0, 0, 0, 0, [], 0), (25, 3, .invokevirtual 152, 168, 0, 7, [12], 0), (28, 3, .ifCond .eq 5, 22, 0, 0, [], 0), (31, 1, .iconst 1, 0, 0, 0, [], 0), (32, 1, .ireturn, 0, 0, 0, [], 0), (33, 1, .aload_n 0, 0, 0, 0, [], 0), (34, 2, .bipush 20, 0, 0, 0, [], 0), (36, 1, .iconst 5, 0, 0, 0, [], 0), (37, 2, .bipush 18, 0, 0, 0, [], 0), (39, 2, .bipush 13, 0, 0, 0, [], 0), (41, 1, .iconst 0, 0, 0, 0, [], 0), (42, 1, .iconst 0, 0, 0, 0, [], 0), (43, 3, .invokevirtual 152, 168, 0, 7, [12], 0), (46, 3, .ifCond .eq 5, 33, 0, 0, [], 0), (49, 1, .iconst 2, 0, 0, 0, [], 0), (50, 1, .ireturn, 0, 0, 0, [], 0), (51, 1, .aload_n 0, 0, 0, 0, [], 0), (52, 2, .bipush 6, 0, 0, 0, [], 0), (54, 1, .iconst 5, 0, 0, 0, [], 0), (55, 2, .bipush 12, 0, 0, 0, [], 0), (57, 2, .bipush 20, 0, 0, 0, [], 0), (59, 1, .iconst 0, 0, 0, 0, [], 0), (60, 1, .iconst 0, 0, 0, 0, [], 0), (61, 3, .invokevirtual 152, 168, 0, 7, [12], 0), (64, 3, .ifCond .eq 5, 44, 0, 0, [], 0), (67, 1, .iconst 3, 0, 0, 0, [], 0), (68, 1, .ireturn, 0, 0, 0, [], 0), (69, 1, .aload_n 0, 0, 0, 0, [], 0), (70, 2, .bipush 16, 0, 0, 0, [], 0), (72, 1, .iconst 1, 0, 0, 0, [], 0), (73, 2, .bipush 20, 0, 0, 0, [], 0), (75, 2, .bipush 8, 0, 0, 0, [], 0), (77, 1, .iconst 0, 0, 0, 0, [], 0), (78, 1, .iconst 0, 0, 0, 0, [], 0), (79, 3, .invokevirtual 152, 168, 0, 7, [12], 0), (82, 3, .ifCond .eq 7, 55, 0, 0, [], 0), (85, 1, .iconst 4, 0, 0, 0, [], 0), (86, 3, .goto 4, 56, 0, 0, [], 0), (89, 1, .iconst (-1), 0, 0, 0, [], 0), (90, 1, .ireturn, 0, 0, 0, [], 0)]
def mt_175 : ix_M := (⟨"CryGorgeModel", "kindHere", "()I"⟩, prog_14_method_25_code, 1, (Option.some FieldType.int), 1, 12, mo_175, [])
def mo_176 : List ix_Op := [(0, 1, .aload_n 0, 0, 0, 0, [], 0), (1, 3, .invokevirtual 165, 175, 0, 1, [12], 0), (4, 1, .istore_n 1, 0, 0, 0, [], 0), (5, 1, .iload_n 1, 0, 0, 0, [], 0), (6, 1, .iconst (-1), 0, 0, 0, [], 0), (7, 3, .if_icmp .ne 15, 12, 0, 0, [], 0), (10, 1, .aload_n 0, 0, 0, 0, [], 0), (11, 1, .iconst 1, 0, 0, 0, [], 0), (12, 1, .aload_n 0, 0, 0, 0, [], 0), (13, 3, .getfield 112, 12, 4, 0, [], 0), (16, 3, .invokevirtual 132, 162, 0, 3, [12], 0), (19, 3, .goto 52, 38, 0, 0, [], 0), (22, 1, .aload_n 0, 0, 0, 0, [], 0), (23, 3, .getfield 159, 12, 7, 0, [], 0), (26, 2, .bipush 60, 0, 0, 0, [], 0), (28, 3, .if_icmp .eq 34, 33, 0, 0, [], 0), (31, 1, .iload_n 1, 0, 0, 0, [], 0), (32, 3, .ifCond .ne 14, 24, 0, 0, [], 0), (35, 1, .aload_n 0, 0, 0, 0, [], 0), (36, 3, .getfield 20, 12, 11, 0, [], 0), (39, 1, .iconst 0, 0, 0, 0, [], 0), (40, 1, .iaload, 0, 0, 0, [], 0), (41, 2, .bipush 6, 0, 0, 0, [], 0), (43, 3, .if_icmp .eq 19, 33, 0, 0, [], 0), (46, 1, .iload_n 1, 0, 0, 0, [], 0), (47, 1, .iconst 1, 0, 0, 0, [], 0), (48, 3, .if_icmp .ne 23, 38, 0, 0, [], 0), (51, 1, .aload_n 0, 0, 0, 0, [], 0), (52, 3, .getfield 20, 12, 11, 0, [], 0), (55, 1, .iconst 1, 0, 0, 0, [], 0), (56, 1, .iaload, 0, 0, 0, [], 0), (57, 2, .bipush 8, 0, 0, 0, [], 0), (59, 3, .if_icmp .ne 12, 38, 0, 0, [], 0), (62, 1, .aload_n 0, 0, 0, 0, [], 0), (63, 1, .iconst 3, 0, 0, 0, [], 0), (64, 1, .aload_n 0, 0, 0, 0, [], 0), (65, 3, .getfield 112, 12, 4, 0, [], 0), (68, 3, .invokevirtual 132, 162, 0, 3, [12], 0), (71, 1, .aload_n 0, 0, 0, 0, [], 0), (72, 3, .getfield 119, 12, 5, 0, [], 0), (75, 3, .ifCond .eq 4, 42, 0, 0, [], 0), (78, 1, .return_, 0, 0, 0, [], 0), (79, 1, .aload_n 0, 0, 0, 0, [], 0), (80, 3, .invokevirtual 156, 169, 0, 1, [12], 0), (83, 1, .aload_n 0, 0, 0, 0, [], 0), (84, 1, .dup, 0, 0, 0, [], 0), (85, 3, .getfield 159, 12, 7, 0, [], 0), (88, 1, .iconst 1, 0, 0, 0, [], 0), (89, 1, .iadd, 0, 0, 0, [], 0), (90, 3, .putfield 159, 12, 7, 0, [], 0), (93, 1, .iload_n 1, 0, 0, 0, [], 0), (94, 34, .tableswitch 217 0 4 #[34, 76, 217, 217, 119], 164, 0, 0, [52, 79, 164, 164, 106], 0), (128, 1, .aload_n 0, 0, 0, 0, [], 0), (129, 3, .getfield 28, 12, 13, 0, [], 0), (132, 1, .aload_n 0, 0, 0, 0, [], 0), (133, 3, .getfield 20, 12, 11, 0, [], 0), (136, 1, .iconst 0, 0, 0, 0, [], 0), (137, 1, .iaload, 0, 0, 0, [], 0), (138, 1, .aaload, 0, 0, 0, [], 0), (139, 1, .iconst 0, 0, 0, 0, [], 0), (140, 1, .aload_n 0, 0, 0, 0, [], 0), (141, 1, .iconst 0, 0, 0, 0, [], 0), (142, 2, .bipush 20, 0, 0, 0, [], 0), (144, 3, .invokevirtual 168, 165, 0, 3, [12], 0), (147, 1, .iastore, 0, 0, 0, [], 0), (148, 1, .aload_n 0, 0, 0, 0, [], 0), (149, 3, .getfield 28, 12, 13, 0, [], 0), (152, 1, .aload_n 0, 0, 0, 0, [], 0), (153, 3, .getfield 20, 12, 11, 0, [], 0), (156, 1, .iconst 0, 0, 0, 0, [], 0), (157, 1, .iaload, 0, 0, 0, [], 0), (158, 1, .aaload, 0, 0, 0, [], 0), (159, 1, .iconst 1, 0, 0, 0, [], 0), (160, 1, .aload_n 0, 0, 0, 0, [], 0), (161, 1, .iconst 1, 0, 0, 0, [], 0), (162, 1, .iconst 4, 0, 0, 0, [], 0), (163, 3, .invokevirtual 168, 165, 0, 3, [12], 0), (166, 1, .iastore, 0, 0, 0, [], 0), (167, 3, .goto 188, 188, 0, 0, [], 0), (170, 1, .aload_n 0, 0, 0, 0, [], 0), (171, 3, .getfield 34, 12, 15, 0, [], 0), (174, 1, .aload_n 0, 0, 0, 0, [], 0), (175, 3, .getfield 20, 12, 11, 0, [], 0), (178, 1, .iconst 1, 0, 0, 0, [], 0), (179, 1, .iaload, 0, 0, 0, [], 0), (180, 1, .aaload, 0, 0, 0, [], 0), (181, 1, .iconst 0, 0, 0, 0, [], 0), (182, 1, .aload_n 0, 0, 0, 0, [], 0), (183, 1, .iconst 0, 0, 0, 0, [], 0), (184, 2, .bipush 60, 0, 0, 0, [], 0), (186, 3, .invokevirtual 168, 165, 0, 3, [12], 0), (189, 1, .iastore, 0, 0, 0, [], 0), (190, 1, .aload_n 0, 0, 0, 0, [], 0), (191, 3, .getfield 34, 12, 15, 0, [], 0), (194, 1, .aload_n 0, 0, 0, 0, [], 0), (195, 3, .getfield 20, 12, 11, 0, [], 0), (198, 1, .iconst 1, 0, 0, 0, [], 0), (199, 1, .iaload, 0, 0, 0, [], 0), (200, 1, .aaload, 0, 0, 0, [], 0), (201, 1, .iconst 1, 0, 0, 0, [], 0), (202, 1, .aload_n 0, 0, 0, 0, [], 0), (203, 1, .iconst 1, 0, 0, 0, [], 0), (204, 2, .bipush 99, 0, 0, 0, [], 0), (206, 3, .invokevirtual 168, 165, 0, 3, [12], 0), (209, 1, .iastore, 0, 0, 0, [], 0), (210, 3, .goto 145, 188, 0, 0, [], 0), (213, 1, .aload_n 0, 0, 0, 0, [], 0), (214, 1, .iconst 0, 0, 0, 0, [], 0), (215, 1, .aload_n 0, 0, 0, 0, [], 0), (216, 3, .getfield 20, 12, 11, 0, [], 0), (219, 1, .iconst 0, 0, 0, 0, [], 0), (220, 1, .iaload, 0, 0, 0, [], 0), (221, 1, .iconst 1, 0, 0, 0, [], 0), (222, 1, .isub, 0, 0, 0, [], 0), (223, 3, .invokevirtual 168, 165, 0, 3, [12], 0), (226, 1, .istore_n 2, 0, 0, 0, [], 0), (227, 1, .aload_n 0, 0, 0, 0, [], 0), (228, 3, .invokevirtual 125, 161, 0, 1, [12], 0), (231, 1, .aload_n 0, 0, 0, 0, [], 0), (232, 3, .getfield 112, 12, 4, 0, [], 0), (235, 1, .istore_n 3, 0, 0, 0, [], 0), (236, 1, .aload_n 0, 0, 0, 0, [], 0), (237, 1, .iconst 0, 0, 0, 0, [], 0), (238, 1, .aload_n 0, 0, 0, 0, [], 0), (239, 3, .getfield 20, 12, 11, 0, [], 0), (242, 1, .iconst 0, 0, 0, 0, [], 0), (243, 1, .iaload, 0, 0, 0, [], 0), (244, 1, .iconst 1, 0, 0, 0, [], 0), (245, 1, .isub, 0, 0, 0, [], 0), (246, 3, .invokevirtual 168, 165, 0, 3, [12], 0), (249, 2, .istore 4, 0, 0, 0, [], 0), (251, 1, .aload_n 0, 0, 0, 0, [], 0), (252, 3, .getfield 119, 12, 5, 0, [], 0), (255, 3, .ifCond .ne 15, 141, 0, 0, [], 0), (258, 1, .iload_n 2, 0, 0, 0, [], 0), (259, 2, .iload 4, 0, 0, 0, [], 0), (261, 3, .if_icmp .ne 9, 141, 0, 0, [], 0), (264, 1, .aload_n 0, 0, 0, 0, [], 0), (265, 1, .iconst 2, 0, 0, 0, [], 0), (266, 1, .iload_n 3, 0, 0, 0, [], 0), (267, 3, .invokevirtual 132, 162, 0, 3, [12], 0), (270, 1, .aload_n 0, 0, 0, 0, [], 0), (271, 1, .iconst 1, 0, 0, 0, [], 0), (272, 2, .bipush 40, 0, 0, 0, [], 0), (274, 3, .invokevirtual 168, 165, 0, 3, [12], 0), (277, 2, .istore 5, 0, 0, 0, [], 0), (279, 1, .aload_n 0, 0, 0, 0, [], 0), (280, 3, .getfield 119, 12, 5, 0, [], 0), (283, 3, .ifCond .ne 72, 188, 0, 0, [], 0), (286, 1, .aload_n 0, 0, 0, 0, [], 0), (287, 3, .getfield 40, 12, 17, 0, [], 0), (290, 1, .iload_n 2, 0, 0, 0, [], 0), (291, 1, .aaload, 0, 0, 0, [], 0), (292, 2, .iload 4, 0, 0, 0, [], 0), (294, 2, .iload 5, 0, 0, 0, [], 0), (296, 1, .iastore, 0, 0, 0, [], 0), (297, 1, .aload_n 0, 0, 0, 0, [], 0), (298, 3, .getfield 40, 12, 17, 0, [], 0), (301, 2, .iload 4, 0, 0, 0, [], 0), (303, 1, .aaload, 0, 0, 0, [], 0), (304, 1, .iload_n 2, 0, 0, 0, [], 0), (305, 2, .iload 5, 0, 0, 0, [], 0), (307, 1, .iastore, 0, 0, 0, [], 0), (308, 3, .goto 47, 188, 0, 0, [], 0), (311, 1, .aload_n 0, 0, 0, 0, [], 0), (312, 1, .iload_n 1, 0, 0, 0, [], 0), (313, 1, .iconst 2, 0, 0, 0, [], 0), (314, 3, .if_icmp .ne 7, 170, 0, 0, [], 0), (317, 1, .iconst 1, 0, 0, 0, [], 0), (318, 3, .goto 4, 171, 0, 0, [], 0), (321, 1, .iconst 0, 0, 0, 0, [], 0), (322, 1, .iload_n 1, 0, 0, 0, [], 0), (323, 1, .iconst 2, 0, 0, 0, [], 0), (324, 3, .if_icmp .ne 8, 176, 0, 0, [], 0), (327, 2, .bipush 40, 0, 0, 0, [], 0), (329, 3, .goto 5, 177, 0, 0, [], 0), (332, 2, .bipush 9, 0, 0, 0, [], 0), (334, 3, .invokevirtual 168, 165, 0, 3, [12], 0), (337, 1, .istore_n 2, 0, 0, 0, [], 0), (338, 1, .aload_n 0, 0, 0, 0, [], 0), (339, 3, .getfield 119, 12, 5, 0, [], 0), (342, 3, .ifCond .ne 13, 188, 0, 0, [], 0), (345, 1, .aload_n 0, 0, 0, 0, [], 0), (346, 3, .getfield 20, 12, 11, 0, [], 0), (349, 1, .iload_n 1, 0, 0, 0, [], 0), (350, 1, .iload_n 2, 0, 0, 0, [], 0), (351, 1, .iastore, 0, 0, 0, [], 0), (352, 3, .goto 3, 188, 0, 0, [], 0), (355, 1, .iload_n 1, 0, 0, 0, [], 0), (356, 1, .iconst 2, 0, 0, 0, [], 0), (357, 3, .if_icmp .ge 24, 204, 0, 0, [], 0), (360, 1, .aload_n 0, 0, 0, 0, [], 0), (361, 3, .getfield 20, 12, 11, 0, [], 0), (364, 1, .iload_n 1, 0, 0, 0, [], 0), (365, 1, .dup2, 0, 0, 0, [], 0), (366, 1, .iaload, 0, 0, 0, [], 0), (367, 1, .aload_n 0, 0, 0, 0, [], 0), (368, 3, .getfield 119, 12, 5, 0, [], 0), (371, 3, .ifCond .ne 7, 201, 0, 0, [], 0), (374, 1, .iconst 1, 0, 0, 0, [], 0), (375, 3, .goto 4, 202, 0, 0, [], 0), (378, 1, .iconst 0, 0, 0, 0, [], 0), (379, 1, .iadd, 0, 0, 0, [], 0), (380, 1, .iastore, 0, 0, 0, [], 0), (381, 1, .aload_n 0, 0, 0, 0, [], 0), (382, 2, .bipush 59, 0, 0, 0, [], 0), (384, 3, .invokevirtual 172, 171, 0, 2, [12], 0), (387, 1, .return_, 0, 0, 0, [], 0)]
def mt_176 : ix_M := (⟨"CryGorgeModel", "clause", "()V"⟩, prog_14_method_26_code, 6, (Option.none : Option FieldType), 1, 12, mo_176, [])
def mo_177 : List ix_Op := [(0, 1, .aload_n 0, 0, 0, 0, [], 0), (1, 1, .iconst 0, 0, 0, 0, [], 0), (2, 3, .putfield 103, 12, 0, 0, [], 0), (5, 1, .aload_n 0, 0, 0, 0, [], 0), (6, 1, .iload_n 1, 0, 0, 0, [], 0), (7, 1, .iconst 0, 0, 0, 0, [], 0), (8, 1, .aload_n 0, 0, 0, 0, [], 0), (9, 3, .getfield 106, 12, 1, 0, [], 0), (12, 3, .invokestatic 137, 155, 1, 3, [], 0), (15, 3, .ifCond .ne 7, 12, 0, 0, [], 0), (18, 1, .iconst 1, 0, 0, 0, [], 0), (19, 3, .goto 4, 13, 0, 0, [], 0), (22, 1, .iconst 0, 0, 0, 0, [], 0), (23, 1, .iconst 1, 0, 0, 0, [], 0), (24, 1, .iconst 1, 0, 0, 0, [], 0), (25, 3, .invokevirtual 176, 154, 0, 4, [12], 0), (28, 3, .ifCond .eq 5, 19, 0, 0, [], 0), (31, 1, .iconst 0, 0, 0, 0, [], 0), (32, 1, .ireturn, 0, 0, 0, [], 0), (33, 1, .aload_n 0, 0, 0, 0, [], 0), (34, 1, .iload_n 1, 0, 0, 0, [], 0), (35, 3, .invokevirtual 180, 173, 0, 2, [12], 0), (38, 1, .aload_n 0, 0, 0, 0, [], 0), (39, 3, .invokevirtual 97, 152, 0, 1, [12], 0), (42, 1, .aload_n 0, 0, 0, 0, [], 0), (43, 3, .getfield 119, 12, 5, 0, [], 0), (46, 3, .ifCond .ne 25, 37, 0, 0, [], 0), (49, 1, .aload_n 0, 0, 0, 0, [], 0), (50, 3, .getfield 112, 12, 4, 0, [], 0), (53, 1, .aload_n 0, 0, 0, 0, [], 0), (54, 3, .getfield 109, 12, 2, 0, [], 0), (57, 3, .if_icmp .ge 14, 37, 0, 0, [], 0), (60, 1, .aload_n 0, 0, 0, 0, [], 0), (61, 3, .invokevirtual 183, 176, 0, 1, [12], 0), (64, 1, .aload_n 0, 0, 0, 0, [], 0), (65, 3, .invokevirtual 125, 161, 0, 1, [12], 0), (68, 3, .goto (-26), 24, 0, 0, [], 0), (71, 1, .aload_n 0, 0, 0, 0, [], 0), (72, 3, .getfield 119, 12, 5, 0, [], 0), (75, 3, .ifCond .eq 8, 43, 0, 0, [], 0), (78, 1, .aload_n 0, 0, 0, 0, [], 0), (79, 3, .invokevirtual 186, 174, 0, 1, [12], 0), (82, 1, .ireturn, 0, 0, 0, [], 0), (83, 1, .aload_n 0, 0, 0, 0, [], 0), (84, 1, .iconst (-1), 0, 0, 0, [], 0), (85, 3, .putfield 9, 12, 3, 0, [], 0), (88, 1, .aload_n 0, 0, 0, 0, [], 0), (89, 3, .invokevirtual 100, 180, 0, 1, [12], 0), (92, 1, .aload_n 0, 0, 0, 0, [], 0), (93, 3, .getfield 23, 12, 12, 0, [], 0), (96, 1, .iconst 1, 0, 0, 0, [], 0), (97, 1, .iaload, 0, 0, 0, [], 0), (98, 1, .ireturn, 0, 0, 0, [], 0)]
def mt_177 : ix_M := (⟨"CryGorgeModel", "gorge", "(I)I"⟩, prog_14_method_27_code, 2, (Option.some FieldType.int), 2, 12, mo_177, [])
def mo_178 : List ix_Op := [(0, 1, .iconst 0, 0, 0, 0, [], 0), (1, 1, .istore_n 3, 0, 0, 0, [], 0), (2, 1, .iload_n 3, 0, 0, 0, [], 0), (3, 1, .iload_n 2, 0, 0, 0, [], 0), (4, 3, .if_icmp .ge 39, 27, 0, 0, [], 0), (7, 1, .iconst 0, 0, 0, 0, [], 0), (8, 2, .istore 4, 0, 0, 0, [], 0), (10, 2, .iload 4, 0, 0, 0, [], 0), (12, 1, .aload_n 1, 0, 0, 0, [], 0), (13, 1, .iload_n 3, 0, 0, 0, [], 0), (14, 1, .aaload, 0, 0, 0, [], 0), (15, 1, .arraylength, 0, 0, 0, [], 0), (16, 3, .if_icmp .ge 21, 25, 0, 0, [], 0), (19, 1, .aload_n 1, 0, 0, 0, [], 0), (20, 1, .iload_n 3, 0, 0, 0, [], 0), (21, 1, .aaload, 0, 0, 0, [], 0), (22, 2, .iload 4, 0, 0, 0, [], 0), (24, 1, .aload_n 0, 0, 0, 0, [], 0), (25, 1, .iload_n 3, 0, 0, 0, [], 0), (26, 1, .aaload, 0, 0, 0, [], 0), (27, 2, .iload 4, 0, 0, 0, [], 0), (29, 1, .iaload, 0, 0, 0, [], 0), (30, 1, .iastore, 0, 0, 0, [], 0), (31, 3, .iinc 4 1, 0, 0, 0, [], 0), (34, 3, .goto (-24), 7, 0, 0, [], 0), (37, 3, .iinc 3 1, 0, 0, 0, [], 0), (40, 3, .goto (-38), 2, 0, 0, [], 0), (43, 1, .return_, 0, 0, 0, [], 0)]
def mt_178 : ix_M := (⟨"CryGorgeModel", "lays", "([[I[[II)V"⟩, prog_14_method_28_code, 5, (Option.none : Option FieldType), 3, 12, mo_178, [])
def mo_179 : List ix_Op := [(0, 1, .iconst 0, 0, 0, 0, [], 0), (1, 1, .istore_n 2, 0, 0, 0, [], 0), (2, 1, .iload_n 2, 0, 0, 0, [], 0), (3, 2, .bipush 32, 0, 0, 0, [], 0), (5, 3, .if_icmp .ge 15, 13, 0, 0, [], 0), (8, 1, .aload_n 1, 0, 0, 0, [], 0), (9, 1, .iload_n 2, 0, 0, 0, [], 0), (10, 1, .aload_n 0, 0, 0, 0, [], 0), (11, 1, .iload_n 2, 0, 0, 0, [], 0), (12, 1, .iaload, 0, 0, 0, [], 0), (13, 1, .iastore, 0, 0, 0, [], 0), (14, 3, .iinc 2 1, 0, 0, 0, [], 0), (17, 3, .goto (-15), 2, 0, 0, [], 0), (20, 1, .return_, 0, 0, 0, [], 0)]
def mt_179 : ix_M := (⟨"CryGorgeModel", "copies", "([I[I)V"⟩, prog_14_method_29_code, 3, (Option.none : Option FieldType), 2, 12, mo_179, [])
def mo_180 : List ix_Op := [(0, 1, .iconst 0, 0, 0, 0, [], 0), (1, 1, .istore_n 1, 0, 0, 0, [], 0), (2, 1, .iload_n 1, 0, 0, 0, [], 0), (3, 1, .iconst 4, 0, 0, 0, [], 0), (4, 3, .if_icmp .ge 21, 15, 0, 0, [], 0), (7, 1, .aload_n 0, 0, 0, 0, [], 0), (8, 3, .getfield 23, 12, 12, 0, [], 0), (11, 1, .iload_n 1, 0, 0, 0, [], 0), (12, 1, .aload_n 0, 0, 0, 0, [], 0), (13, 3, .getfield 20, 12, 11, 0, [], 0), (16, 1, .iload_n 1, 0, 0, 0, [], 0), (17, 1, .iaload, 0, 0, 0, [], 0), (18, 1, .iastore, 0, 0, 0, [], 0), (19, 3, .iinc 1 1, 0, 0, 0, [], 0), (22, 3, .goto (-20), 2, 0, 0, [], 0), (25, 1, .aload_n 0, 0, 0, 0, [], 0), (26, 3, .getfield 28, 12, 13, 0, [], 0), (29, 1, .aload_n 0, 0, 0, 0, [], 0), (30, 3, .getfield 31, 12, 14, 0, [], 0), (33, 1, .aload_n 0, 0, 0, 0, [], 0), (34, 3, .getfield 23, 12, 12, 0, [], 0), (37, 1, .iconst 0, 0, 0, 0, [], 0), (38, 1, .iaload, 0, 0, 0, [], 0), (39, 3, .invokestatic 189, 178, 1, 3, [], 0), (42, 1, .aload_n 0, 0, 0, 0, [], 0), (43, 3, .getfield 34, 12, 15, 0, [], 0), (46, 1, .aload_n 0, 0, 0, 0, [], 0), (47, 3, .getfield 37, 12, 16, 0, [], 0), (50, 1, .aload_n 0, 0, 0, 0, [], 0), (51, 3, .getfield 23, 12, 12, 0, [], 0), (54, 1, .iconst 1, 0, 0, 0, [], 0), (55, 1, .iaload, 0, 0, 0, [], 0), (56, 3, .invokestatic 189, 178, 1, 3, [], 0), (59, 1, .aload_n 0, 0, 0, 0, [], 0), (60, 3, .getfield 40, 12, 17, 0, [], 0), (63, 1, .aload_n 0, 0, 0, 0, [], 0), (64, 3, .getfield 43, 12, 18, 0, [], 0), (67, 2, .bipush 6, 0, 0, 0, [], 0), (69, 3, .invokestatic 189, 178, 1, 3, [], 0), (72, 1, .aload_n 0, 0, 0, 0, [], 0), (73, 3, .invokevirtual 193, 181, 0, 1, [12], 0), (76, 1, .iconst 0, 0, 0, 0, [], 0), (77, 1, .istore_n 1, 0, 0, 0, [], 0), (78, 1, .iload_n 1, 0, 0, 0, [], 0), (79, 2, .bipush 32, 0, 0, 0, [], 0), (81, 3, .if_icmp .ge 16, 53, 0, 0, [], 0), (84, 1, .aload_n 0, 0, 0, 0, [], 0), (85, 3, .getfield 70, 12, 30, 0, [], 0), (88, 1, .iload_n 1, 0, 0, 0, [], 0), (89, 1, .iconst 0, 0, 0, 0, [], 0), (90, 1, .iastore, 0, 0, 0, [], 0), (91, 3, .iinc 1 1, 0, 0, 0, [], 0), (94, 3, .goto (-16), 43, 0, 0, [], 0), (97, 1, .iconst 0, 0, 0, 0, [], 0), (98, 1, .istore_n 1, 0, 0, 0, [], 0), (99, 1, .iload_n 1, 0, 0, 0, [], 0), (100, 2, .bipush 8, 0, 0, 0, [], 0), (102, 3, .if_icmp .ge 49, 87, 0, 0, [], 0), (105, 1, .aload_n 0, 0, 0, 0, [], 0), (106, 3, .getfield 70, 12, 30, 0, [], 0), (109, 1, .iconst 0, 0, 0, 0, [], 0), (110, 1, .iload_n 1, 0, 0, 0, [], 0), (111, 1, .iadd, 0, 0, 0, [], 0), (112, 1, .iconst (-1), 0, 0, 0, [], 0), (113, 1, .iastore, 0, 0, 0, [], 0), (114, 1, .aload_n 0, 0, 0, 0, [], 0), (115, 3, .getfield 70, 12, 30, 0, [], 0), (118, 2, .bipush 8, 0, 0, 0, [], 0), (120, 1, .iload_n 1, 0, 0, 0, [], 0), (121, 1, .iadd, 0, 0, 0, [], 0), (122, 1, .iload_n 1, 0, 0, 0, [], 0), (123, 1, .aload_n 0, 0, 0, 0, [], 0), (124, 3, .getfield 23, 12, 12, 0, [], 0), (127, 1, .iconst 1, 0, 0, 0, [], 0), (128, 1, .iaload, 0, 0, 0, [], 0), (129, 3, .if_icmp .ge 14, 83, 0, 0, [], 0), (132, 1, .aload_n 0, 0, 0, 0, [], 0), (133, 3, .getfield 37, 12, 16, 0, [], 0), (136, 1, .iload_n 1, 0, 0, 0, [], 0), (137, 1, .aaload, 0, 0, 0, [], 0), (138, 1, .iconst 1, 0, 0, 0, [], 0), (139, 1, .iaload, 0, 0, 0, [], 0), (140, 3, .goto 4, 84, 0, 0, [], 0), (143, 1, .iconst 0, 0, 0, 0, [], 0), (144, 1, .iastore, 0, 0, 0, [], 0), (145, 3, .iinc 1 1, 0, 0, 0, [], 0), (148, 3, .goto (-49), 55, 0, 0, [], 0), (151, 1, .aload_n 0, 0, 0, 0, [], 0), (152, 3, .getfield 70, 12, 30, 0, [], 0), (155, 2, .bipush 30, 0, 0, 0, [], 0), (157, 1, .aload_n 0, 0, 0, 0, [], 0), (158, 3, .getfield 23, 12, 12, 0, [], 0), (161, 1, .iconst 3, 0, 0, 0, [], 0), (162, 1, .iaload, 0, 0, 0, [], 0), (163, 1, .iastore, 0, 0, 0, [], 0), (164, 1, .aload_n 0, 0, 0, 0, [], 0), (165, 1, .iconst 0, 0, 0, 0, [], 0), (166, 3, .putfield 196, 12, 20, 0, [], 0), (169, 1, .aload_n 0, 0, 0, 0, [], 0), (170, 1, .iconst 0, 0, 0, 0, [], 0), (171, 3, .putfield 199, 12, 35, 0, [], 0), (174, 1, .aload_n 0, 0, 0, 0, [], 0), (175, 1, .iconst 0, 0, 0, 0, [], 0), (176, 3, .putfield 202, 12, 36, 0, [], 0), (179, 1, .aload_n 0, 0, 0, 0, [], 0), (180, 1, .iconst 0, 0, 0, 0, [], 0), (181, 3, .putfield 205, 12, 37, 0, [], 0), (184, 1, .aload_n 0, 0, 0, 0, [], 0), (185, 1, .iconst 0, 0, 0, 0, [], 0), (186, 3, .putfield 208, 12, 38, 0, [], 0), (189, 1, .return_, 0, 0, 0, [], 0)]
def mt_180 : ix_M := (⟨"CryGorgeModel", "beginsAnew", "()V"⟩, prog_14_method_30_code, 2, (Option.none : Option FieldType), 1, 12, mo_180, [])
def mo_181 : List ix_Op := [(0, 1, .iconst 0, 0, 0, 0, [], 0), (1, 1, .istore_n 1, 0, 0, 0, [], 0), (2, 1, .iload_n 1, 0, 0, 0, [], 0), (3, 2, .bipush 6, 0, 0, 0, [], 0), (5, 3, .if_icmp .ge 64, 40, 0, 0, [], 0), (8, 1, .iconst 0, 0, 0, 0, [], 0), (9, 1, .istore_n 2, 0, 0, 0, [], 0), (10, 1, .iload_n 2, 0, 0, 0, [], 0), (11, 2, .bipush 6, 0, 0, 0, [], 0), (13, 3, .if_icmp .ge 50, 38, 0, 0, [], 0), (16, 1, .aload_n 0, 0, 0, 0, [], 0), (17, 3, .getfield 46, 12, 19, 0, [], 0), (20, 1, .iload_n 1, 0, 0, 0, [], 0), (21, 1, .aaload, 0, 0, 0, [], 0), (22, 1, .iload_n 2, 0, 0, 0, [], 0), (23, 1, .iload_n 1, 0, 0, 0, [], 0), (24, 1, .iload_n 2, 0, 0, 0, [], 0), (25, 3, .if_icmp .ne 7, 20, 0, 0, [], 0), (28, 1, .iconst 0, 0, 0, 0, [], 0), (29, 3, .goto 27, 35, 0, 0, [], 0), (32, 1, .aload_n 0, 0, 0, 0, [], 0), (33, 3, .getfield 43, 12, 18, 0, [], 0), (36, 1, .iload_n 1, 0, 0, 0, [], 0), (37, 1, .aaload, 0, 0, 0, [], 0), (38, 1, .iload_n 2, 0, 0, 0, [], 0), (39, 1, .iaload, 0, 0, 0, [], 0), (40, 3, .ifCond .le 14, 34, 0, 0, [], 0), (43, 1, .aload_n 0, 0, 0, 0, [], 0), (44, 3, .getfield 43, 12, 18, 0, [], 0), (47, 1, .iload_n 1, 0, 0, 0, [], 0), (48, 1, .aaload, 0, 0, 0, [], 0), (49, 1, .iload_n 2, 0, 0, 0, [], 0), (50, 1, .iaload, 0, 0, 0, [], 0), (51, 3, .goto 5, 35, 0, 0, [], 0), (54, 2, .ldc 136, 0, 0, 0, [], 100000), (56, 1, .iastore, 0, 0, 0, [], 0), (57, 3, .iinc 2 1, 0, 0, 0, [], 0), (60, 3, .goto (-50), 7, 0, 0, [], 0), (63, 3, .iinc 1 1, 0, 0, 0, [], 0), (66, 3, .goto (-64), 2, 0, 0, [], 0), (69, 1, .iconst 0, 0, 0, 0, [], 0), (70, 1, .istore_n 1, 0, 0, 0, [], 0), (71, 1, .iload_n 1, 0, 0, 0, [], 0), (72, 2, .bipush 6, 0, 0, 0, [], 0), (74, 3, .if_icmp .ge 73, 87, 0, 0, [], 0), (77, 1, .iconst 0, 0, 0, 0, [], 0), (78, 1, .istore_n 2, 0, 0, 0, [], 0), (79, 1, .iload_n 2, 0, 0, 0, [], 0), (80, 2, .bipush 6, 0, 0, 0, [], 0), (82, 3, .if_icmp .ge 59, 85, 0, 0, [], 0), (85, 1, .iconst 0, 0, 0, 0, [], 0), (86, 1, .istore_n 3, 0, 0, 0, [], 0), (87, 1, .iload_n 3, 0, 0, 0, [], 0), (88, 2, .bipush 6, 0, 0, 0, [], 0), (90, 3, .if_icmp .ge 45, 83, 0, 0, [], 0), (93, 1, .aload_n 0, 0, 0, 0, [], 0), (94, 3, .getfield 46, 12, 19, 0, [], 0), (97, 1, .iload_n 2, 0, 0, 0, [], 0), (98, 1, .aaload, 0, 0, 0, [], 0), (99, 1, .iload_n 3, 0, 0, 0, [], 0), (100, 1, .aload_n 0, 0, 0, 0, [], 0), (101, 3, .getfield 46, 12, 19, 0, [], 0), (104, 1, .iload_n 2, 0, 0, 0, [], 0), (105, 1, .aaload, 0, 0, 0, [], 0), (106, 1, .iload_n 3, 0, 0, 0, [], 0), (107, 1, .iaload, 0, 0, 0, [], 0), (108, 1, .aload_n 0, 0, 0, 0, [], 0), (109, 3, .getfield 46, 12, 19, 0, [], 0), (112, 1, .iload_n 2, 0, 0, 0, [], 0), (113, 1, .aaload, 0, 0, 0, [], 0), (114, 1, .iload_n 1, 0, 0, 0, [], 0), (115, 1, .iaload, 0, 0, 0, [], 0), (116, 1, .aload_n 0, 0, 0, 0, [], 0), (117, 3, .getfield 46, 12, 19, 0, [], 0), (120, 1, .iload_n 1, 0, 0, 0, [], 0), (121, 1, .aaload, 0, 0, 0, [], 0), (122, 1, .iload_n 3, 0, 0, 0, [], 0), (123, 1, .iaload, 0, 0, 0, [], 0), (124, 1, .iadd, 0, 0, 0, [], 0), (125, 3, .invokestatic 211, 156, 1, 2, [], 0), (128, 1, .iastore, 0, 0, 0, [], 0), (129, 3, .iinc 3 1, 0, 0, 0, [], 0), (132, 3, .goto (-45), 52, 0, 0, [], 0), (135, 3, .iinc 2 1, 0, 0, 0, [], 0), (138, 3, .goto (-59), 47, 0, 0, [], 0), (141, 3, .iinc 1 1, 0, 0, 0, [], 0), (144, 3, .goto (-73), 42, 0, 0, [], 0), (147, 1, .return_, 0, 0, 0, [], 0)]
def mt_181 : ix_M := (⟨"CryGorgeModel", "laysFar", "()V"⟩, prog_14_method_31_code, 4, (Option.none : Option FieldType), 1, 12, mo_181, [])
def mo_182 : List ix_Op := [(0, 1, .aload_n 0, 0, 0, 0, [], 0), (1, 3, .getfield 119, 12, 5, 0, [], 0), (4, 3, .ifCond .eq 4, 4, 0, 0, [], 0), (7, 1, .return_, 0, 0, 0, [], 0), (8, 1, .aload_n 0, 0, 0, 0, [], 0), (9, 3, .getfield 52, 12, 23, 0, [], 0), (12, 1, .aload_n 0, 0, 0, 0, [], 0), (13, 3, .getfield 214, 12, 21, 0, [], 0), (16, 1, .aaload, 0, 0, 0, [], 0), (17, 1, .iconst 0, 0, 0, 0, [], 0), (18, 1, .iload_n 1, 0, 0, 0, [], 0), (19, 1, .iastore, 0, 0, 0, [], 0), (20, 1, .aload_n 0, 0, 0, 0, [], 0), (21, 3, .getfield 52, 12, 23, 0, [], 0), (24, 1, .aload_n 0, 0, 0, 0, [], 0), (25, 3, .getfield 214, 12, 21, 0, [], 0), (28, 1, .aaload, 0, 0, 0, [], 0), (29, 1, .iconst 1, 0, 0, 0, [], 0), (30, 1, .iload_n 2, 0, 0, 0, [], 0), (31, 1, .iastore, 0, 0, 0, [], 0), (32, 1, .aload_n 0, 0, 0, 0, [], 0), (33, 1, .dup, 0, 0, 0, [], 0), (34, 3, .getfield 214, 12, 21, 0, [], 0), (37, 1, .iconst 1, 0, 0, 0, [], 0), (38, 1, .iadd, 0, 0, 0, [], 0), (39, 3, .putfield 214, 12, 21, 0, [], 0), (42, 1, .return_, 0, 0, 0, [], 0)]
def mt_182 : ix_M := (⟨"CryGorgeModel", "notes", "(II)V"⟩, prog_14_method_32_code, 3, (Option.none : Option FieldType), 3, 12, mo_182, [])
def mo_183 : List ix_Op := [(0, 1, .aload_n 0, 0, 0, 0, [], 0), (1, 3, .getfield 119, 12, 5, 0, [], 0), (4, 3, .ifCond .ne 24, 13, 0, 0, [], 0), (7, 1, .aload_n 0, 0, 0, 0, [], 0), (8, 3, .getfield 162, 12, 8, 0, [], 0), (11, 2, .bipush 6, 0, 0, 0, [], 0), (13, 3, .if_icmp .ne 15, 13, 0, 0, [], 0), (16, 1, .aload_n 0, 0, 0, 0, [], 0), (17, 1, .iconst 3, 0, 0, 0, [], 0), (18, 1, .aload_n 0, 0, 0, 0, [], 0), (19, 3, .getfield 112, 12, 4, 0, [], 0), (22, 3, .invokevirtual 132, 162, 0, 3, [12], 0), (25, 3, .goto 20, 22, 0, 0, [], 0), (28, 1, .aload_n 0, 0, 0, 0, [], 0), (29, 3, .getfield 119, 12, 5, 0, [], 0), (32, 3, .ifCond .ne 13, 22, 0, 0, [], 0), (35, 1, .aload_n 0, 0, 0, 0, [], 0), (36, 1, .dup, 0, 0, 0, [], 0), (37, 3, .getfield 162, 12, 8, 0, [], 0), (40, 1, .iconst 1, 0, 0, 0, [], 0), (41, 1, .iadd, 0, 0, 0, [], 0), (42, 3, .putfield 162, 12, 8, 0, [], 0), (45, 1, .aload_n 0, 0, 0, 0, [], 0), (46, 3, .getfield 119, 12, 5, 0, [], 0), (49, 3, .ifCond .ne 7, 27, 0, 0, [], 0), (52, 1, .iconst 1, 0, 0, 0, [], 0), (53, 3, .goto 4, 28, 0, 0, [], 0), (56, 1, .iconst 0, 0, 0, 0, [], 0), (57, 1, .ireturn, 1, 0, 0, [], 0)]
def mt_183 : ix_M := (⟨"CryGorgeModel", "opensOne", "()Z"⟩, prog_14_method_33_code, 1, (Option.some FieldType.boolean), 1, 12, mo_183, [])
def mo_184 : List ix_Op := [(0, 1, .aload_n 0, 0, 0, 0, [], 0), (1, 3, .invokevirtual 217, 185, 0, 1, [12], 0), (4, 1, .aload_n 0, 0, 0, 0, [], 0), (5, 3, .getfield 119, 12, 5, 0, [], 0), (8, 3, .ifCond .ne 50, 30, 0, 0, [], 0), (11, 1, .aload_n 0, 0, 0, 0, [], 0), (12, 2, .bipush 43, 0, 0, 0, [], 0), (14, 3, .invokevirtual 220, 172, 0, 2, [12], 0), (17, 3, .ifCond .eq 7, 11, 0, 0, [], 0), (20, 1, .iconst 2, 0, 0, 0, [], 0), (21, 3, .goto 17, 18, 0, 0, [], 0), (24, 1, .aload_n 0, 0, 0, 0, [], 0), (25, 2, .bipush 45, 0, 0, 0, [], 0), (27, 3, .invokevirtual 220, 172, 0, 2, [12], 0), (30, 3, .ifCond .eq 7, 17, 0, 0, [], 0), (33, 1, .iconst 3, 0, 0, 0, [], 0), (34, 3, .goto 4, 18, 0, 0, [], 0), (37, 1, .iconst (-1), 0, 0, 0, [], 0), (38, 1, .istore_n 1, 0, 0, 0, [], 0), (39, 1, .iload_n 1, 0, 0, 0, [], 0), (40, 1, .iconst (-1), 0, 0, 0, [], 0), (41, 3, .if_icmp .ne 4, 23, 0, 0, [], 0), (44, 1, .return_, 0, 0, 0, [], 0), (45, 1, .aload_n 0, 0, 0, 0, [], 0), (46, 3, .invokevirtual 217, 185, 0, 1, [12], 0), (49, 1, .aload_n 0, 0, 0, 0, [], 0), (50, 1, .iload_n 1, 0, 0, 0, [], 0), (51, 1, .iconst 0, 0, 0, 0, [], 0), (52, 3, .invokevirtual 223, 182, 0, 3, [12], 0), (55, 3, .goto (-51), 2, 0, 0, [], 0), (58, 1, .return_, 0, 0, 0, [], 0)]
def mt_184 : ix_M := (⟨"CryGorgeModel", "sum", "()V"⟩, prog_14_method_34_code, 2, (Option.none : Option FieldType), 1, 12, mo_184, [])
def mo_185 : List ix_Op := [(0, 1, .aload_n 0, 0, 0, 0, [], 0), (1, 3, .invokevirtual 226, 188, 0, 1, [12], 0), (4, 1, .aload_n 0, 0, 0, 0, [], 0), (5, 3, .getfield 119, 12, 5, 0, [], 0), (8, 3, .ifCond .ne 64, 36, 0, 0, [], 0), (11, 1, .aload_n 0, 0, 0, 0, [], 0), (12, 2, .bipush 42, 0, 0, 0, [], 0), (14, 3, .invokevirtual 220, 172, 0, 2, [12], 0), (17, 3, .ifCond .eq 7, 11, 0, 0, [], 0), (20, 1, .iconst 4, 0, 0, 0, [], 0), (21, 3, .goto 31, 24, 0, 0, [], 0), (24, 1, .aload_n 0, 0, 0, 0, [], 0), (25, 2, .bipush 47, 0, 0, 0, [], 0), (27, 3, .invokevirtual 220, 172, 0, 2, [12], 0), (30, 3, .ifCond .eq 7, 17, 0, 0, [], 0), (33, 1, .iconst 5, 0, 0, 0, [], 0), (34, 3, .goto 18, 24, 0, 0, [], 0), (37, 1, .aload_n 0, 0, 0, 0, [], 0), (38, 2, .bipush 37, 0, 0, 0, [], 0), (40, 3, .invokevirtual 220, 172, 0, 2, [12], 0), (43, 3, .ifCond .eq 8, 23, 0, 0, [], 0), (46, 2, .bipush 6, 0, 0, 0, [], 0), (48, 3, .goto 4, 24, 0, 0, [], 0), (51, 1, .iconst (-1), 0, 0, 0, [], 0), (52, 1, .istore_n 1, 0, 0, 0, [], 0), (53, 1, .iload_n 1, 0, 0, 0, [], 0), (54, 1, .iconst (-1), 0, 0, 0, [], 0), (55, 3, .if_icmp .ne 4, 29, 0, 0, [], 0), (58, 1, .return_, 0, 0, 0, [], 0), (59, 1, .aload_n 0, 0, 0, 0, [], 0), (60, 3, .invokevirtual 226, 188, 0, 1, [12], 0), (63, 1, .aload_n 0, 0, 0, 0, [], 0), (64, 1, .iload_n 1, 0, 0, 0, [], 0), (65, 1, .iconst 0, 0, 0, 0, [], 0), (66, 3, .invokevirtual 223, 182, 0, 3, [12], 0), (69, 3, .goto (-65), 2, 0, 0, [], 0), (72, 1, .return_, 0, 0, 0, [], 0)]
def mt_185 : ix_M := (⟨"CryGorgeModel", "product", "()V"⟩, prog_14_method_35_code, 2, (Option.none : Option FieldType), 1, 12, mo_185, [])
def mo_186 : List ix_Op := [(0, 1, .aload_n 0, 0, 0, 0, [], 0), (1, 2, .bipush 6, 0, 0, 0, [], 0), (3, 1, .iconst 1, 0, 0, 0, [], 0), (4, 1, .iconst 4, 0, 0, 0, [], 0), (5, 1, .iconst 5, 0, 0, 0, [], 0), (6, 1, .iconst 0, 0, 0, 0, [], 0), (7, 1, .iconst 0, 0, 0, 0, [], 0), (8, 3, .invokevirtual 229, 170, 0, 7, [12], 0), (11, 3, .ifCond .eq 5, 11, 0, 0, [], 0), (14, 1, .iconst 0, 0, 0, 0, [], 0), (15, 1, .ireturn, 0, 0, 0, [], 0), (16, 1, .aload_n 0, 0, 0, 0, [], 0), (17, 2, .bipush 13, 0, 0, 0, [], 0), (19, 1, .iconst 1, 0, 0, 0, [], 0), (20, 2, .bipush 20, 0, 0, 0, [], 0), (22, 1, .iconst 5, 0, 0, 0, [], 0), (23, 2, .bipush 19, 0, 0, 0, [], 0), (25, 1, .iconst 0, 0, 0, 0, [], 0), (26, 3, .invokevirtual 229, 170, 0, 7, [12], 0), (29, 3, .ifCond .eq 5, 22, 0, 0, [], 0), (32, 1, .iconst 1, 0, 0, 0, [], 0), (33, 1, .ireturn, 0, 0, 0, [], 0), (34, 1, .aload_n 0, 0, 0, 0, [], 0), (35, 2, .bipush 6, 0, 0, 0, [], 0), (37, 1, .iconst 5, 0, 0, 0, [], 0), (38, 2, .bipush 12, 0, 0, 0, [], 0), (40, 2, .bipush 20, 0, 0, 0, [], 0), (42, 1, .iconst 0, 0, 0, 0, [], 0), (43, 1, .iconst 0, 0, 0, 0, [], 0), (44, 3, .invokevirtual 229, 170, 0, 7, [12], 0), (47, 3, .ifCond .eq 5, 33, 0, 0, [], 0), (50, 1, .iconst 2, 0, 0, 0, [], 0), (51, 1, .ireturn, 0, 0, 0, [], 0), (52, 1, .aload_n 0, 0, 0, 0, [], 0), (53, 3, .invokevirtual 232, 187, 0, 1, [12], 0), (56, 3, .ifCond .eq 5, 38, 0, 0, [], 0), (59, 1, .iconst 3, 0, 0, 0, [], 0), (60, 1, .ireturn, 0, 0, 0, [], 0), (61, 1, .aload_n 0, 0, 0, 0, [], 0), (62, 2, .bipush 16, 0, 0, 0, [], 0), (64, 2, .bipush 9, 0, 0, 0, [], 0), (66, 2, .bipush 20, 0, 0, 0, [], 0), (68, 1, .iconst 3, 0, 0, 0, [], 0), (69, 2, .bipush 8, 0, 0, 0, [], 0), (71, 1, .iconst 0, 0, 0, 0, [], 0), (72, 3, .invokevirtual 229, 170, 0, 7, [12], 0), (75, 3, .ifCond .eq 5, 49, 0, 0, [], 0), (78, 1, .iconst 4, 0, 0, 0, [], 0), (79, 1, .ireturn, 0, 0, 0, [], 0), (80, 1, .aload_n 0, 0, 0, 0, [], 0), (81, 1, .iconst 1, 0, 0, 0, [], 0), (82, 2, .bipush 7, 0, 0, 0, [], 0), (84, 1, .iconst 5, 0, 0, 0, [], 0), (85, 1, .iconst 0, 0, 0, 0, [], 0), (86, 1, .iconst 0, 0, 0, 0, [], 0), (87, 1, .iconst 0, 0, 0, 0, [], 0), (88, 3, .invokevirtual 229, 170, 0, 7, [12], 0), (91, 3, .ifCond .eq 5, 60, 0, 0, [], 0), (94, 1, .iconst 5, 0, 0, 0, [], 0), (95, 1, .ireturn, 0, 0, 0, [], 0), (96, 1, .aload_n 0, 0, 0, 0, [], 0), (97, 1, .iconst 2, 0, 0, 0, [], 0), (98, 1, .iconst 1, 0, 0, 0, [], 0), (99, 2, .bipush 25, 0, 0, 0, [], 0), (101, 1, .iconst 0, 0, 0, 0, [], 0), (102, 1, .iconst 0, 0, 0, 0, [], 0), (103, 1, .iconst 0, 0, 0, 0, [], 0), (104, 3, .invokevirtual 229, 170, 0, 7, [12], 0), (107, 3, .ifCond .eq 6, 71, 0, 0, [], 0), (110, 2, .bipush 6, 0, 0, 0, [], 0), (112, 1, .ireturn, 0, 0, 0, [], 0), (113, 1, .aload_n 0, 0, 0, 0, [], 0), (114, 2, .bipush 25, 0, 0, 0, [], 0), (116, 1, .iconst 5, 0, 0, 0, [], 0), (117, 1, .iconst 1, 0, 0, 0, [], 0), (118, 2, .bipush 18, 0, 0, 0, [], 0), (120, 1, .iconst 0, 0, 0, 0, [], 0), (121, 1, .iconst 0, 0, 0, 0, [], 0), (122, 3, .invokevirtual 229, 170, 0, 7, [12], 0), (125, 3, .ifCond .eq 8, 82, 0, 0, [], 0), (128, 2, .bipush 7, 0, 0, 0, [], 0), (130, 3, .goto 4, 83, 0, 0, [], 0), (133, 1, .iconst (-1), 0, 0, 0, [], 0), (134, 1, .ireturn, 0, 0, 0, [], 0)]
def mt_186 : ix_M := (⟨"CryGorgeModel", "knownHere", "()I"⟩, prog_14_method_36_code, 1, (Option.some FieldType.int), 1, 12, mo_186, [])
def mo_187 : List ix_Op := [(0, 1, .aload_n 0, 0, 0, 0, [], 0), (1, 3, .getfield 119, 12, 5, 0, [], 0), (4, 3, .ifCond .eq 5, 5, 0, 0, [], 0), (7, 1, .iconst 0, 0, 0, 0, [], 0), (8, 1, .ireturn, 1, 0, 0, [], 0), (9, 1, .aload_n 0, 0, 0, 0, [], 0), (10, 3, .invokevirtual 125, 161, 0, 1, [12], 0), (13, 1, .iconst 0, 0, 0, 0, [], 0), (14, 1, .istore_n 1, 0, 0, 0, [], 0), (15, 1, .iconst 0, 0, 0, 0, [], 0), (16, 1, .istore_n 2, 0, 0, 0, [], 0), (17, 1, .aload_n 0, 0, 0, 0, [], 0), (18, 1, .aload_n 0, 0, 0, 0, [], 0), (19, 3, .getfield 112, 12, 4, 0, [], 0), (22, 1, .iload_n 2, 0, 0, 0, [], 0), (23, 1, .iadd, 0, 0, 0, [], 0), (24, 3, .invokevirtual 115, 160, 0, 2, [12], 0), (27, 3, .invokestatic 141, 164, 1, 1, [], 0), (30, 3, .ifCond .eq 40, 41, 0, 0, [], 0), (33, 1, .iload_n 2, 0, 0, 0, [], 0), (34, 2, .bipush 6, 0, 0, 0, [], 0), (36, 3, .if_icmp .ge 26, 37, 0, 0, [], 0), (39, 2, .bipush 27, 0, 0, 0, [], 0), (41, 1, .iload_n 1, 0, 0, 0, [], 0), (42, 1, .imul, 0, 0, 0, [], 0), (43, 1, .aload_n 0, 0, 0, 0, [], 0), (44, 1, .aload_n 0, 0, 0, 0, [], 0), (45, 3, .getfield 112, 12, 4, 0, [], 0), (48, 1, .iload_n 2, 0, 0, 0, [], 0), (49, 1, .iadd, 0, 0, 0, [], 0), (50, 3, .invokevirtual 115, 160, 0, 2, [12], 0), (53, 1, .iadd, 0, 0, 0, [], 0), (54, 2, .bipush 97, 0, 0, 0, [], 0), (56, 1, .isub, 0, 0, 0, [], 0), (57, 1, .iconst 1, 0, 0, 0, [], 0), (58, 1, .iadd, 0, 0, 0, [], 0), (59, 3, .goto 4, 38, 0, 0, [], 0), (62, 1, .iload_n 1, 0, 0, 0, [], 0), (63, 1, .istore_n 1, 0, 0, 0, [], 0), (64, 3, .iinc 2 1, 0, 0, 0, [], 0), (67, 3, .goto (-50), 11, 0, 0, [], 0), (70, 1, .iload_n 2, 0, 0, 0, [], 0), (71, 2, .bipush 8, 0, 0, 0, [], 0), (73, 3, .if_icmp .ne 57, 71, 0, 0, [], 0), (76, 1, .iload_n 1, 0, 0, 0, [], 0), (77, 2, .bipush 19, 0, 0, 0, [], 0), (79, 2, .bipush 20, 0, 0, 0, [], 0), (81, 2, .bipush 18, 0, 0, 0, [], 0), (83, 1, .iconst 5, 0, 0, 0, [], 0), (84, 2, .bipush 14, 0, 0, 0, [], 0), (86, 2, .bipush 7, 0, 0, 0, [], 0), (88, 3, .invokestatic 148, 167, 1, 6, [], 0), (91, 3, .if_icmp .ne 39, 71, 0, 0, [], 0), (94, 1, .aload_n 0, 0, 0, 0, [], 0), (95, 1, .aload_n 0, 0, 0, 0, [], 0), (96, 3, .getfield 112, 12, 4, 0, [], 0), (99, 2, .bipush 6, 0, 0, 0, [], 0), (101, 1, .iadd, 0, 0, 0, [], 0), (102, 3, .invokevirtual 115, 160, 0, 2, [12], 0), (105, 2, .bipush 116, 0, 0, 0, [], 0), (107, 3, .if_icmp .ne 23, 71, 0, 0, [], 0), (110, 1, .aload_n 0, 0, 0, 0, [], 0), (111, 1, .aload_n 0, 0, 0, 0, [], 0), (112, 3, .getfield 112, 12, 4, 0, [], 0), (115, 2, .bipush 7, 0, 0, 0, [], 0), (117, 1, .iadd, 0, 0, 0, [], 0), (118, 3, .invokevirtual 115, 160, 0, 2, [12], 0), (121, 2, .bipush 104, 0, 0, 0, [], 0), (123, 3, .if_icmp .ne 7, 71, 0, 0, [], 0), (126, 1, .iconst 1, 0, 0, 0, [], 0), (127, 3, .goto 4, 72, 0, 0, [], 0), (130, 1, .iconst 0, 0, 0, 0, [], 0), (131, 1, .istore_n 3, 0, 0, 0, [], 0), (132, 1, .iload_n 3, 0, 0, 0, [], 0), (133, 3, .ifCond .eq 7, 77, 0, 0, [], 0), (136, 1, .aload_n 0, 0, 0, 0, [], 0), (137, 3, .invokevirtual 156, 169, 0, 1, [12], 0), (140, 1, .iload_n 3, 0, 0, 0, [], 0), (141, 1, .ireturn, 1, 0, 0, [], 0)]
def mt_187 : ix_M := (⟨"CryGorgeModel", "isStrength", "()Z"⟩, prog_14_method_37_code, 4, (Option.some FieldType.boolean), 1, 12, mo_187, [])
def mo_188 : List ix_Op := [(0, 1, .aload_n 0, 0, 0, 0, [], 0), (1, 3, .getfield 119, 12, 5, 0, [], 0), (4, 3, .ifCond .eq 4, 4, 0, 0, [], 0), (7, 1, .return_, 0, 0, 0, [], 0), (8, 1, .aload_n 0, 0, 0, 0, [], 0), (9, 3, .invokevirtual 125, 161, 0, 1, [12], 0), (12, 1, .aload_n 0, 0, 0, 0, [], 0), (13, 2, .bipush 12, 0, 0, 0, [], 0), (15, 1, .iconst 5, 0, 0, 0, [], 0), (16, 1, .iconst 1, 0, 0, 0, [], 0), (17, 2, .bipush 19, 0, 0, 0, [], 0), (19, 2, .bipush 20, 0, 0, 0, [], 0), (21, 1, .iconst 0, 0, 0, 0, [], 0), (22, 3, .invokevirtual 152, 168, 0, 7, [12], 0), (25, 3, .ifCond .eq 8, 17, 0, 0, [], 0), (28, 2, .bipush 7, 0, 0, 0, [], 0), (30, 3, .goto 26, 29, 0, 0, [], 0), (33, 1, .aload_n 0, 0, 0, 0, [], 0), (34, 2, .bipush 13, 0, 0, 0, [], 0), (36, 2, .bipush 15, 0, 0, 0, [], 0), (38, 2, .bipush 19, 0, 0, 0, [], 0), (40, 2, .bipush 20, 0, 0, 0, [], 0), (42, 1, .iconst 0, 0, 0, 0, [], 0), (43, 1, .iconst 0, 0, 0, 0, [], 0), (44, 3, .invokevirtual 152, 168, 0, 7, [12], 0), (47, 3, .ifCond .eq 8, 28, 0, 0, [], 0), (50, 2, .bipush 8, 0, 0, 0, [], 0), (52, 3, .goto 4, 29, 0, 0, [], 0), (55, 1, .iconst (-1), 0, 0, 0, [], 0), (56, 1, .istore_n 1, 0, 0, 0, [], 0), (57, 1, .iload_n 1, 0, 0, 0, [], 0), (58, 1, .iconst (-1), 0, 0, 0, [], 0), (59, 3, .if_icmp .eq 58, 63, 0, 0, [], 0), (62, 1, .aload_n 0, 0, 0, 0, [], 0), (63, 3, .invokevirtual 236, 183, 0, 1, [12], 0), (66, 3, .ifCond .ne 4, 37, 0, 0, [], 0), (69, 1, .return_, 0, 0, 0, [], 0), (70, 1, .aload_n 0, 0, 0, 0, [], 0), (71, 3, .invokevirtual 156, 169, 0, 1, [12], 0), (74, 1, .aload_n 0, 0, 0, 0, [], 0), (75, 2, .bipush 91, 0, 0, 0, [], 0), (77, 3, .invokevirtual 172, 171, 0, 2, [12], 0), (80, 1, .aload_n 0, 0, 0, 0, [], 0), (81, 3, .invokevirtual 239, 184, 0, 1, [12], 0), (84, 1, .aload_n 0, 0, 0, 0, [], 0), (85, 2, .bipush 44, 0, 0, 0, [], 0), (87, 3, .invokevirtual 172, 171, 0, 2, [12], 0), (90, 1, .aload_n 0, 0, 0, 0, [], 0), (91, 3, .invokevirtual 239, 184, 0, 1, [12], 0), (94, 1, .aload_n 0, 0, 0, 0, [], 0), (95, 2, .bipush 93, 0, 0, 0, [], 0), (97, 3, .invokevirtual 172, 171, 0, 2, [12], 0), (100, 1, .aload_n 0, 0, 0, 0, [], 0), (101, 1, .iload_n 1, 0, 0, 0, [], 0), (102, 1, .iconst 0, 0, 0, 0, [], 0), (103, 3, .invokevirtual 223, 182, 0, 3, [12], 0), (106, 1, .aload_n 0, 0, 0, 0, [], 0), (107, 1, .dup, 0, 0, 0, [], 0), (108, 3, .getfield 162, 12, 8, 0, [], 0), (111, 1, .iconst 1, 0, 0, 0, [], 0), (112, 1, .isub, 0, 0, 0, [], 0), (113, 3, .putfield 162, 12, 8, 0, [], 0), (116, 1, .return_, 0, 0, 0, [], 0), (117, 1, .aload_n 0, 0, 0, 0, [], 0), (118, 1, .aload_n 0, 0, 0, 0, [], 0), (119, 3, .getfield 112, 12, 4, 0, [], 0), (122, 3, .invokevirtual 115, 160, 0, 2, [12], 0), (125, 2, .bipush 40, 0, 0, 0, [], 0), (127, 3, .if_icmp .ne 42, 91, 0, 0, [], 0), (130, 1, .aload_n 0, 0, 0, 0, [], 0), (131, 3, .invokevirtual 236, 183, 0, 1, [12], 0), (134, 3, .ifCond .ne 4, 73, 0, 0, [], 0), (137, 1, .return_, 0, 0, 0, [], 0), (138, 1, .aload_n 0, 0, 0, 0, [], 0), (139, 1, .dup, 0, 0, 0, [], 0), (140, 3, .getfield 112, 12, 4, 0, [], 0), (143, 1, .iconst 1, 0, 0, 0, [], 0), (144, 1, .iadd, 0, 0, 0, [], 0), (145, 3, .putfield 112, 12, 4, 0, [], 0), (148, 1, .aload_n 0, 0, 0, 0, [], 0), (149, 3, .invokevirtual 239, 184, 0, 1, [12], 0), (152, 1, .aload_n 0, 0, 0, 0, [], 0), (153, 2, .bipush 41, 0, 0, 0, [], 0), (155, 3, .invokevirtual 172, 171, 0, 2, [12], 0), (158, 1, .aload_n 0, 0, 0, 0, [], 0), (159, 1, .dup, 0, 0, 0, [], 0), (160, 3, .getfield 162, 12, 8, 0, [], 0), (163, 1, .iconst 1, 0, 0, 0, [], 0), (164, 1, .isub, 0, 0, 0, [], 0), (165, 3, .putfield 162, 12, 8, 0, [], 0), (168, 1, .return_, 0, 0, 0, [], 0), (169, 1, .aload_n 0, 0, 0, 0, [], 0), (170, 3, .invokevirtual 242, 186, 0, 1, [12], 0), (173, 1, .istore_n 2, 0, 0, 0, [], 0), (174, 1, .iload_n 2, 0, 0, 0, [], 0), (175, 1, .iconst (-1), 0, 0, 0, [], 0), (176, 3, .if_icmp .eq 12, 102, 0, 0, [], 0), (179, 1, .aload_n 0, 0, 0, 0, [], 0), (180, 1, .iconst 1, 0, 0, 0, [], 0), (181, 1, .iload_n 2, 0, 0, 0, [], 0), (182, 3, .invokevirtual 223, 182, 0, 3, [12], 0), (185, 3, .goto 16, 109, 0, 0, [], 0), (188, 1, .aload_n 0, 0, 0, 0, [], 0), (189, 1, .iconst 0, 0, 0, 0, [], 0), (190, 1, .aload_n 0, 0, 0, 0, [], 0), (191, 1, .iconst 0, 0, 0, 0, [], 0), (192, 3, .sipush 999, 0, 0, 0, [], 0), (195, 3, .invokevirtual 168, 165, 0, 3, [12], 0), (198, 3, .invokevirtual 223, 182, 0, 3, [12], 0), (201, 1, .return_, 0, 0, 0, [], 0)]
def mt_188 : ix_M := (⟨"CryGorgeModel", "one", "()V"⟩, prog_14_method_38_code, 3, (Option.none : Option FieldType), 1, 12, mo_188, [])
def mo_189 : List ix_Op := [(0, 1, .aload_n 0, 0, 0, 0, [], 0), (1, 1, .iconst 0, 0, 0, 0, [], 0), (2, 3, .putfield 103, 12, 0, 0, [], 0), (5, 1, .aload_n 0, 0, 0, 0, [], 0), (6, 1, .iload_n 1, 0, 0, 0, [], 0), (7, 1, .iconst 0, 0, 0, 0, [], 0), (8, 1, .aload_n 0, 0, 0, 0, [], 0), (9, 3, .getfield 106, 12, 1, 0, [], 0), (12, 3, .invokestatic 137, 155, 1, 3, [], 0), (15, 3, .ifCond .eq 10, 13, 0, 0, [], 0), (18, 1, .iload_n 1, 0, 0, 0, [], 0), (19, 3, .sipush 150, 0, 0, 0, [], 0), (22, 3, .if_icmp .le 7, 15, 0, 0, [], 0), (25, 1, .iconst 1, 0, 0, 0, [], 0), (26, 3, .goto 4, 16, 0, 0, [], 0), (29, 1, .iconst 0, 0, 0, 0, [], 0), (30, 1, .iconst 1, 0, 0, 0, [], 0), (31, 1, .iconst 1, 0, 0, 0, [], 0), (32, 3, .invokevirtual 176, 154, 0, 4, [12], 0), (35, 3, .ifCond .eq 5, 22, 0, 0, [], 0), (38, 1, .iconst 0, 0, 0, 0, [], 0), (39, 1, .ireturn, 0, 0, 0, [], 0), (40, 1, .aload_n 0, 0, 0, 0, [], 0), (41, 1, .iload_n 1, 0, 0, 0, [], 0), (42, 3, .invokevirtual 180, 173, 0, 2, [12], 0), (45, 1, .aload_n 0, 0, 0, 0, [], 0), (46, 1, .iconst 0, 0, 0, 0, [], 0), (47, 3, .putfield 214, 12, 21, 0, [], 0), (50, 1, .aload_n 0, 0, 0, 0, [], 0), (51, 3, .invokevirtual 239, 184, 0, 1, [12], 0), (54, 1, .aload_n 0, 0, 0, 0, [], 0), (55, 3, .invokevirtual 125, 161, 0, 1, [12], 0), (58, 1, .aload_n 0, 0, 0, 0, [], 0), (59, 3, .getfield 119, 12, 5, 0, [], 0), (62, 3, .ifCond .ne 23, 45, 0, 0, [], 0), (65, 1, .aload_n 0, 0, 0, 0, [], 0), (66, 3, .getfield 112, 12, 4, 0, [], 0), (69, 1, .aload_n 0, 0, 0, 0, [], 0), (70, 3, .getfield 109, 12, 2, 0, [], 0), (73, 3, .if_icmp .ge 12, 45, 0, 0, [], 0), (76, 1, .aload_n 0, 0, 0, 0, [], 0), (77, 1, .iconst 1, 0, 0, 0, [], 0), (78, 1, .aload_n 0, 0, 0, 0, [], 0), (79, 3, .getfield 112, 12, 4, 0, [], 0), (82, 3, .invokevirtual 132, 162, 0, 3, [12], 0), (85, 1, .aload_n 0, 0, 0, 0, [], 0), (86, 3, .getfield 119, 12, 5, 0, [], 0), (89, 3, .ifCond .eq 8, 51, 0, 0, [], 0), (92, 1, .aload_n 0, 0, 0, 0, [], 0), (93, 3, .invokevirtual 186, 174, 0, 1, [12], 0), (96, 1, .ireturn, 0, 0, 0, [], 0), (97, 1, .aload_n 0, 0, 0, 0, [], 0), (98, 1, .iconst (-1), 0, 0, 0, [], 0), (99, 3, .putfield 9, 12, 3, 0, [], 0), (102, 1, .aload_n 0, 0, 0, 0, [], 0), (103, 1, .aload_n 0, 0, 0, 0, [], 0), (104, 3, .getfield 214, 12, 21, 0, [], 0), (107, 3, .putfield 196, 12, 20, 0, [], 0), (110, 1, .aload_n 0, 0, 0, 0, [], 0), (111, 3, .getfield 52, 12, 23, 0, [], 0), (114, 1, .aload_n 0, 0, 0, 0, [], 0), (115, 3, .getfield 49, 12, 22, 0, [], 0), (118, 1, .aload_n 0, 0, 0, 0, [], 0), (119, 3, .getfield 196, 12, 20, 0, [], 0), (122, 3, .invokestatic 189, 178, 1, 3, [], 0), (125, 1, .iconst 1, 0, 0, 0, [], 0), (126, 1, .ireturn, 0, 0, 0, [], 0)]
def mt_189 : ix_M := (⟨"CryGorgeModel", "law", "(I)I"⟩, prog_14_method_39_code, 2, (Option.some FieldType.int), 2, 12, mo_189, [])
def mo_190 : List ix_Op := [(0, 1, .iload_n 0, 0, 0, 0, [], 0), (1, 39, .tableswitch 96 2 7 #[39, 43, 47, 51, 73, 90], 43, 0, 0, [2, 6, 10, 14, 28, 39], 0), (40, 1, .iload_n 1, 0, 0, 0, [], 0), (41, 1, .iload_n 2, 0, 0, 0, [], 0), (42, 1, .iadd, 0, 0, 0, [], 0), (43, 1, .ireturn, 0, 0, 0, [], 0), (44, 1, .iload_n 1, 0, 0, 0, [], 0), (45, 1, .iload_n 2, 0, 0, 0, [], 0), (46, 1, .isub, 0, 0, 0, [], 0), (47, 1, .ireturn, 0, 0, 0, [], 0), (48, 1, .iload_n 1, 0, 0, 0, [], 0), (49, 1, .iload_n 2, 0, 0, 0, [], 0), (50, 1, .imul, 0, 0, 0, [], 0), (51, 1, .ireturn, 0, 0, 0, [], 0), (52, 1, .iload_n 2, 0, 0, 0, [], 0), (53, 3, .ifCond .ne 7, 18, 0, 0, [], 0), (56, 1, .iconst 0, 0, 0, 0, [], 0), (57, 3, .goto 16, 27, 0, 0, [], 0), (60, 1, .iload_n 2, 0, 0, 0, [], 0), (61, 1, .iconst (-1), 0, 0, 0, [], 0), (62, 3, .if_icmp .ne 8, 24, 0, 0, [], 0), (65, 1, .iload_n 1, 0, 0, 0, [], 0), (66, 1, .ineg, 0, 0, 0, [], 0), (67, 3, .goto 6, 27, 0, 0, [], 0), (70, 1, .iload_n 1, 0, 0, 0, [], 0), (71, 1, .iload_n 2, 0, 0, 0, [], 0), (72, 1, .idiv, 0, 0, 0, [], 0), (73, 1, .ireturn, 0, 0, 0, [], 0), (74, 1, .iload_n 2, 0, 0, 0, [], 0), (75, 3, .ifCond .eq 8, 33, 0, 0, [], 0), (78, 1, .iload_n 2, 0, 0, 0, [], 0), (79, 1, .iconst (-1), 0, 0, 0, [], 0), (80, 3, .if_icmp .ne 7, 35, 0, 0, [], 0), (83, 1, .iconst 0, 0, 0, 0, [], 0), (84, 3, .goto 6, 38, 0, 0, [], 0), (87, 1, .iload_n 1, 0, 0, 0, [], 0), (88, 1, .iload_n 2, 0, 0, 0, [], 0), (89, 1, .irem, 0, 0, 0, [], 0), (90, 1, .ireturn, 0, 0, 0, [], 0), (91, 1, .iload_n 1, 0, 0, 0, [], 0), (92, 1, .iload_n 2, 0, 0, 0, [], 0), (93, 3, .invokestatic 211, 156, 1, 2, [], 0), (96, 1, .ireturn, 0, 0, 0, [], 0), (97, 1, .iload_n 1, 0, 0, 0, [], 0), (98, 1, .iload_n 2, 0, 0, 0, [], 0), (99, 3, .invokestatic 245, 157, 1, 2, [], 0), (102, 1, .ireturn, 0, 0, 0, [], 0)]
def mt_190 : ix_M := (⟨"CryGorgeModel", "by", "(III)I"⟩, prog_14_method_40_code, 3, (Option.some FieldType.int), 3, 12, mo_190, [])
def mo_191 : List ix_Op := [(0, 1, .iconst 0, 0, 0, 0, [], 0), (1, 1, .istore_n 1, 0, 0, 0, [], 0), (2, 1, .aload_n 0, 0, 0, 0, [], 0), (3, 3, .getfield 61, 12, 26, 0, [], 0), (6, 1, .iconst 0, 0, 0, 0, [], 0), (7, 1, .aload_n 0, 0, 0, 0, [], 0), (8, 3, .getfield 64, 12, 27, 0, [], 0), (11, 1, .iconst 0, 0, 0, 0, [], 0), (12, 1, .iaload, 0, 0, 0, [], 0), (13, 1, .aload_n 0, 0, 0, 0, [], 0), (14, 3, .getfield 64, 12, 27, 0, [], 0), (17, 1, .iconst 1, 0, 0, 0, [], 0), (18, 1, .iaload, 0, 0, 0, [], 0), (19, 1, .iadd, 0, 0, 0, [], 0), (20, 1, .iconst 2, 0, 0, 0, [], 0), (21, 1, .aload_n 0, 0, 0, 0, [], 0), (22, 3, .getfield 64, 12, 27, 0, [], 0), (25, 1, .iconst 2, 0, 0, 0, [], 0), (26, 1, .iaload, 0, 0, 0, [], 0), (27, 1, .imul, 0, 0, 0, [], 0), (28, 1, .isub, 0, 0, 0, [], 0), (29, 1, .iastore, 0, 0, 0, [], 0), (30, 1, .iconst 0, 0, 0, 0, [], 0), (31, 1, .istore_n 2, 0, 0, 0, [], 0), (32, 1, .iload_n 2, 0, 0, 0, [], 0), (33, 1, .aload_n 0, 0, 0, 0, [], 0), (34, 3, .getfield 196, 12, 20, 0, [], 0), (37, 3, .if_icmp .ge 104, 91, 0, 0, [], 0), (40, 1, .aload_n 0, 0, 0, 0, [], 0), (41, 3, .getfield 49, 12, 22, 0, [], 0), (44, 1, .iload_n 2, 0, 0, 0, [], 0), (45, 1, .aaload, 0, 0, 0, [], 0), (46, 1, .iconst 0, 0, 0, 0, [], 0), (47, 1, .iaload, 0, 0, 0, [], 0), (48, 1, .iconst 2, 0, 0, 0, [], 0), (49, 3, .if_icmp .ge 50, 65, 0, 0, [], 0), (52, 1, .aload_n 0, 0, 0, 0, [], 0), (53, 3, .getfield 61, 12, 26, 0, [], 0), (56, 1, .iload_n 1, 0, 0, 0, [], 0), (57, 1, .aload_n 0, 0, 0, 0, [], 0), (58, 3, .getfield 49, 12, 22, 0, [], 0), (61, 1, .iload_n 2, 0, 0, 0, [], 0), (62, 1, .aaload, 0, 0, 0, [], 0), (63, 1, .iconst 0, 0, 0, 0, [], 0), (64, 1, .iaload, 0, 0, 0, [], 0), (65, 3, .ifCond .ne 14, 53, 0, 0, [], 0), (68, 1, .aload_n 0, 0, 0, 0, [], 0), (69, 3, .getfield 49, 12, 22, 0, [], 0), (72, 1, .iload_n 2, 0, 0, 0, [], 0), (73, 1, .aaload, 0, 0, 0, [], 0), (74, 1, .iconst 1, 0, 0, 0, [], 0), (75, 1, .iaload, 0, 0, 0, [], 0), (76, 3, .goto 16, 62, 0, 0, [], 0), (79, 1, .aload_n 0, 0, 0, 0, [], 0), (80, 3, .getfield 64, 12, 27, 0, [], 0), (83, 1, .aload_n 0, 0, 0, 0, [], 0), (84, 3, .getfield 49, 12, 22, 0, [], 0), (87, 1, .iload_n 2, 0, 0, 0, [], 0), (88, 1, .aaload, 0, 0, 0, [], 0), (89, 1, .iconst 1, 0, 0, 0, [], 0), (90, 1, .iaload, 0, 0, 0, [], 0), (91, 1, .iaload, 0, 0, 0, [], 0), (92, 1, .iastore, 0, 0, 0, [], 0), (93, 3, .iinc 1 1, 0, 0, 0, [], 0), (96, 3, .goto 39, 89, 0, 0, [], 0), (99, 3, .iinc 1 (-1), 0, 0, 0, [], 0), (102, 1, .aload_n 0, 0, 0, 0, [], 0), (103, 3, .getfield 61, 12, 26, 0, [], 0), (106, 1, .iload_n 1, 0, 0, 0, [], 0), (107, 1, .iconst 1, 0, 0, 0, [], 0), (108, 1, .isub, 0, 0, 0, [], 0), (109, 1, .aload_n 0, 0, 0, 0, [], 0), (110, 3, .getfield 49, 12, 22, 0, [], 0), (113, 1, .iload_n 2, 0, 0, 0, [], 0), (114, 1, .aaload, 0, 0, 0, [], 0), (115, 1, .iconst 0, 0, 0, 0, [], 0), (116, 1, .iaload, 0, 0, 0, [], 0), (117, 1, .aload_n 0, 0, 0, 0, [], 0), (118, 3, .getfield 61, 12, 26, 0, [], 0), (121, 1, .iload_n 1, 0, 0, 0, [], 0), (122, 1, .iconst 1, 0, 0, 0, [], 0), (123, 1, .isub, 0, 0, 0, [], 0), (124, 1, .iaload, 0, 0, 0, [], 0), (125, 1, .aload_n 0, 0, 0, 0, [], 0), (126, 3, .getfield 61, 12, 26, 0, [], 0), (129, 1, .iload_n 1, 0, 0, 0, [], 0), (130, 1, .iaload, 0, 0, 0, [], 0), (131, 3, .invokestatic 248, 190, 1, 3, [], 0), (134, 1, .iastore, 0, 0, 0, [], 0), (135, 3, .iinc 2 1, 0, 0, 0, [], 0), (138, 3, .goto (-106), 24, 0, 0, [], 0), (141, 2, .bipush 99, 0, 0, 0, [], 0), (143, 1, .iconst 0, 0, 0, 0, [], 0), (144, 1, .aload_n 0, 0, 0, 0, [], 0), (145, 3, .getfield 61, 12, 26, 0, [], 0), (148, 1, .iconst 0, 0, 0, 0, [], 0), (149, 1, .iaload, 0, 0, 0, [], 0), (150, 3, .invokestatic 245, 157, 1, 2, [], 0), (153, 3, .invokestatic 211, 156, 1, 2, [], 0), (156, 1, .ireturn, 0, 0, 0, [], 0)]
def mt_191 : ix_M := (⟨"CryGorgeModel", "byLaw", "()I"⟩, prog_14_method_41_code, 3, (Option.some FieldType.int), 1, 12, mo_191, [])
def mo_192 : List ix_Op := [(0, 1, .aload_n 0, 0, 0, 0, [], 0), (1, 2, .bipush 11, 0, 0, 0, [], 0), (3, 1, .iconst 5, 0, 0, 0, [], 0), (4, 1, .iconst 5, 0, 0, 0, [], 0), (5, 2, .bipush 16, 0, 0, 0, [], 0), (7, 1, .iconst 0, 0, 0, 0, [], 0), (8, 1, .iconst 0, 0, 0, 0, [], 0), (9, 3, .invokevirtual 152, 168, 0, 7, [12], 0), (12, 3, .ifCond .eq 5, 11, 0, 0, [], 0), (15, 1, .iconst 0, 0, 0, 0, [], 0), (16, 1, .ireturn, 0, 0, 0, [], 0), (17, 1, .aload_n 0, 0, 0, 0, [], 0), (18, 2, .bipush 6, 0, 0, 0, [], 0), (20, 1, .iconst 5, 0, 0, 0, [], 0), (21, 2, .bipush 12, 0, 0, 0, [], 0), (23, 2, .bipush 20, 0, 0, 0, [], 0), (25, 1, .iconst 0, 0, 0, 0, [], 0), (26, 1, .iconst 0, 0, 0, 0, [], 0), (27, 3, .invokevirtual 152, 168, 0, 7, [12], 0), (30, 3, .ifCond .eq 5, 22, 0, 0, [], 0), (33, 1, .iconst 1, 0, 0, 0, [], 0), (34, 1, .ireturn, 0, 0, 0, [], 0), (35, 1, .aload_n 0, 0, 0, 0, [], 0), (36, 1, .iconst 2, 0, 0, 0, [], 0), (37, 1, .iconst 1, 0, 0, 0, [], 0), (38, 2, .bipush 18, 0, 0, 0, [], 0), (40, 1, .iconst 5, 0, 0, 0, [], 0), (41, 1, .iconst 0, 0, 0, 0, [], 0), (42, 1, .iconst 0, 0, 0, 0, [], 0), (43, 3, .invokevirtual 152, 168, 0, 7, [12], 0), (46, 3, .ifCond .eq 5, 33, 0, 0, [], 0), (49, 1, .iconst 2, 0, 0, 0, [], 0), (50, 1, .ireturn, 0, 0, 0, [], 0), (51, 1, .aload_n 0, 0, 0, 0, [], 0), (52, 2, .bipush 12, 0, 0, 0, [], 0), (54, 2, .bipush 15, 0, 0, 0, [], 0), (56, 2, .bipush 15, 0, 0, 0, [], 0), (58, 2, .bipush 19, 0, 0, 0, [], 0), (60, 1, .iconst 5, 0, 0, 0, [], 0), (61, 1, .iconst 0, 0, 0, 0, [], 0), (62, 3, .invokevirtual 152, 168, 0, 7, [12], 0), (65, 3, .ifCond .eq 5, 44, 0, 0, [], 0), (68, 1, .iconst 3, 0, 0, 0, [], 0), (69, 1, .ireturn, 0, 0, 0, [], 0), (70, 1, .aload_n 0, 0, 0, 0, [], 0), (71, 2, .bipush 6, 0, 0, 0, [], 0), (73, 2, .bipush 9, 0, 0, 0, [], 0), (75, 2, .bipush 12, 0, 0, 0, [], 0), (77, 2, .bipush 12, 0, 0, 0, [], 0), (79, 1, .iconst 0, 0, 0, 0, [], 0), (80, 1, .iconst 0, 0, 0, 0, [], 0), (81, 3, .invokevirtual 152, 168, 0, 7, [12], 0), (84, 3, .ifCond .eq 5, 55, 0, 0, [], 0), (87, 1, .iconst 4, 0, 0, 0, [], 0), (88, 1, .ireturn, 0, 0, 0, [], 0), (89, 1, .aload_n 0, 0, 0, 0, [], 0), (90, 2, .bipush 15, 0, 0, 0, [], 0), (92, 2, .bipush 21, 0, 0, 0, [], 0), (94, 2, .bipush 20, 0, 0, 0, [], 0), (96, 1, .iconst 0, 0, 0, 0, [], 0), (97, 1, .iconst 0, 0, 0, 0, [], 0), (98, 1, .iconst 0, 0, 0, 0, [], 0), (99, 3, .invokevirtual 152, 168, 0, 7, [12], 0), (102, 3, .ifCond .eq 5, 66, 0, 0, [], 0), (105, 1, .iconst 5, 0, 0, 0, [], 0), (106, 1, .ireturn, 0, 0, 0, [], 0), (107, 1, .aload_n 0, 0, 0, 0, [], 0), (108, 2, .bipush 25, 0, 0, 0, [], 0), (110, 1, .iconst 5, 0, 0, 0, [], 0), (111, 1, .iconst 1, 0, 0, 0, [], 0), (112, 2, .bipush 18, 0, 0, 0, [], 0), (114, 1, .iconst 0, 0, 0, 0, [], 0), (115, 1, .iconst 0, 0, 0, 0, [], 0), (116, 3, .invokevirtual 152, 168, 0, 7, [12], 0), (119, 3, .ifCond .eq 6, 77, 0, 0, [], 0), (122, 2, .bipush 6, 0, 0, 0, [], 0), (124, 1, .ireturn, 0, 0, 0, [], 0), (125, 1, .aload_n 0, 0, 0, 0, [], 0), (126, 1, .iconst 1, 0, 0, 0, [], 0), (127, 2, .bipush 7, 0, 0, 0, [], 0), (129, 1, .iconst 1, 0, 0, 0, [], 0), (130, 2, .bipush 9, 0, 0, 0, [], 0), (132, 2, .bipush 14, 0, 0, 0, [], 0), (134, 1, .iconst 0, 0, 0, 0, [], 0), (135, 3, .invokevirtual 152, 168, 0, 7, [12], 0), (138, 3, .ifCond .eq 8, 88, 0, 0, [], 0), (141, 2, .bipush 7, 0, 0, 0, [], 0), (143, 3, .goto 4, 89, 0, 0, [], 0), (146, 1, .iconst (-1), 0, 0, 0, [], 0), (147, 1, .ireturn, 0, 0, 0, [], 0)]
def mt_192 : ix_M := (⟨"CryGorgeModel", "stepHere", "()I"⟩, prog_14_method_42_code, 1, (Option.some FieldType.int), 1, 12, mo_192, [])
def mo_193 : List ix_Op := [(0, 1, .aload_n 0, 0, 0, 0, [], 0), (1, 3, .invokevirtual 252, 192, 0, 1, [12], 0), (4, 1, .istore_n 1, 0, 0, 0, [], 0), (5, 1, .iload_n 1, 0, 0, 0, [], 0), (6, 1, .iconst (-1), 0, 0, 0, [], 0), (7, 3, .if_icmp .ne 12, 11, 0, 0, [], 0), (10, 1, .aload_n 0, 0, 0, 0, [], 0), (11, 1, .iconst 1, 0, 0, 0, [], 0), (12, 1, .aload_n 0, 0, 0, 0, [], 0), (13, 3, .getfield 112, 12, 4, 0, [], 0), (16, 3, .invokevirtual 132, 162, 0, 3, [12], 0), (19, 1, .iload_n 1, 0, 0, 0, [], 0), (20, 2, .bipush 7, 0, 0, 0, [], 0), (22, 3, .if_icmp .ne 11, 18, 0, 0, [], 0), (25, 1, .aload_n 0, 0, 0, 0, [], 0), (26, 3, .invokevirtual 236, 183, 0, 1, [12], 0), (29, 3, .ifCond .ne 4, 18, 0, 0, [], 0), (32, 1, .return_, 0, 0, 0, [], 0), (33, 1, .aload_n 0, 0, 0, 0, [], 0), (34, 3, .getfield 119, 12, 5, 0, [], 0), (37, 3, .ifCond .eq 4, 22, 0, 0, [], 0), (40, 1, .return_, 0, 0, 0, [], 0), (41, 1, .aload_n 0, 0, 0, 0, [], 0), (42, 3, .invokevirtual 156, 169, 0, 1, [12], 0), (45, 1, .aload_n 0, 0, 0, 0, [], 0), (46, 3, .getfield 67, 12, 28, 0, [], 0), (49, 1, .aload_n 0, 0, 0, 0, [], 0), (50, 3, .getfield 255, 12, 29, 0, [], 0), (53, 1, .aaload, 0, 0, 0, [], 0), (54, 1, .astore_n 2, 0, 0, 0, [], 0), (55, 1, .aload_n 0, 0, 0, 0, [], 0), (56, 1, .dup, 0, 0, 0, [], 0), (57, 3, .getfield 255, 12, 29, 0, [], 0), (60, 1, .iconst 1, 0, 0, 0, [], 0), (61, 1, .iadd, 0, 0, 0, [], 0), (62, 3, .putfield 255, 12, 29, 0, [], 0), (65, 1, .aload_n 2, 0, 0, 0, [], 0), (66, 1, .iconst 0, 0, 0, 0, [], 0), (67, 1, .iload_n 1, 0, 0, 0, [], 0), (68, 1, .iastore, 0, 0, 0, [], 0), (69, 1, .iload_n 1, 0, 0, 0, [], 0), (70, 3, .ifCond .eq 14, 48, 0, 0, [], 0), (73, 1, .iload_n 1, 0, 0, 0, [], 0), (74, 1, .iconst 2, 0, 0, 0, [], 0), (75, 3, .if_icmp .le 25, 60, 0, 0, [], 0), (78, 1, .iload_n 1, 0, 0, 0, [], 0), (79, 2, .bipush 6, 0, 0, 0, [], 0), (81, 3, .if_icmp .ge 19, 60, 0, 0, [], 0), (84, 1, .aload_n 2, 0, 0, 0, [], 0), (85, 1, .iconst 1, 0, 0, 0, [], 0), (86, 1, .aload_n 0, 0, 0, 0, [], 0), (87, 1, .iconst 0, 0, 0, 0, [], 0), (88, 1, .aload_n 0, 0, 0, 0, [], 0), (89, 3, .getfield 23, 12, 12, 0, [], 0), (92, 1, .iconst 1, 0, 0, 0, [], 0), (93, 1, .iaload, 0, 0, 0, [], 0), (94, 1, .iconst 1, 0, 0, 0, [], 0), (95, 1, .isub, 0, 0, 0, [], 0), (96, 3, .invokevirtual 168, 165, 0, 3, [12], 0), (99, 1, .iastore, 0, 0, 0, [], 0), (100, 1, .iload_n 1, 0, 0, 0, [], 0), (101, 1, .iconst 3, 0, 0, 0, [], 0), (102, 3, .if_icmp .ge 19, 75, 0, 0, [], 0), (105, 1, .aload_n 2, 0, 0, 0, [], 0), (106, 1, .iconst 2, 0, 0, 0, [], 0), (107, 1, .aload_n 0, 0, 0, 0, [], 0), (108, 1, .iconst 0, 0, 0, 0, [], 0), (109, 1, .aload_n 0, 0, 0, 0, [], 0), (110, 3, .getfield 23, 12, 12, 0, [], 0), (113, 1, .iconst 0, 0, 0, 0, [], 0), (114, 1, .iaload, 0, 0, 0, [], 0), (115, 1, .iconst 1, 0, 0, 0, [], 0), (116, 1, .isub, 0, 0, 0, [], 0), (117, 3, .invokevirtual 168, 165, 0, 3, [12], 0), (120, 1, .iastore, 0, 0, 0, [], 0), (121, 1, .iload_n 1, 0, 0, 0, [], 0), (122, 1, .iconst 4, 0, 0, 0, [], 0), (123, 3, .if_icmp .ne 13, 85, 0, 0, [], 0), (126, 1, .aload_n 2, 0, 0, 0, [], 0), (127, 1, .iconst 2, 0, 0, 0, [], 0), (128, 1, .aload_n 0, 0, 0, 0, [], 0), (129, 1, .iconst 1, 0, 0, 0, [], 0), (130, 2, .bipush 30, 0, 0, 0, [], 0), (132, 3, .invokevirtual 168, 165, 0, 3, [12], 0), (135, 1, .iastore, 0, 0, 0, [], 0), (136, 1, .iload_n 1, 0, 0, 0, [], 0), (137, 2, .bipush 7, 0, 0, 0, [], 0), (139, 3, .if_icmp .ne 70, 123, 0, 0, [], 0), (142, 1, .aload_n 2, 0, 0, 0, [], 0), (143, 1, .iconst 1, 0, 0, 0, [], 0), (144, 1, .aload_n 0, 0, 0, 0, [], 0), (145, 1, .iconst 0, 0, 0, 0, [], 0), (146, 2, .bipush 40, 0, 0, 0, [], 0), (148, 3, .invokevirtual 168, 165, 0, 3, [12], 0), (151, 1, .iastore, 0, 0, 0, [], 0), (152, 1, .aload_n 0, 0, 0, 0, [], 0), (153, 2, .bipush 91, 0, 0, 0, [], 0), (155, 3, .invokevirtual 172, 171, 0, 2, [12], 0), (158, 1, .aload_n 0, 0, 0, 0, [], 0), (159, 3, .invokevirtual 125, 161, 0, 1, [12], 0), (162, 1, .aload_n 0, 0, 0, 0, [], 0), (163, 3, .getfield 119, 12, 5, 0, [], 0), (166, 3, .ifCond .ne 27, 114, 0, 0, [], 0), (169, 1, .aload_n 0, 0, 0, 0, [], 0), (170, 1, .aload_n 0, 0, 0, 0, [], 0), (171, 3, .getfield 112, 12, 4, 0, [], 0), (174, 3, .invokevirtual 115, 160, 0, 2, [12], 0), (177, 2, .bipush 93, 0, 0, 0, [], 0), (179, 3, .if_icmp .eq 14, 114, 0, 0, [], 0), (182, 1, .aload_n 0, 0, 0, 0, [], 0), (183, 3, .invokevirtual 258, 193, 0, 1, [12], 0), (186, 1, .aload_n 0, 0, 0, 0, [], 0), (187, 3, .invokevirtual 125, 161, 0, 1, [12], 0), (190, 3, .goto (-28), 100, 0, 0, [], 0), (193, 1, .aload_n 0, 0, 0, 0, [], 0), (194, 2, .bipush 93, 0, 0, 0, [], 0), (196, 3, .invokevirtual 172, 171, 0, 2, [12], 0), (199, 1, .aload_n 0, 0, 0, 0, [], 0), (200, 1, .dup, 0, 0, 0, [], 0), (201, 3, .getfield 162, 12, 8, 0, [], 0), (204, 1, .iconst 1, 0, 0, 0, [], 0), (205, 1, .isub, 0, 0, 0, [], 0), (206, 3, .putfield 162, 12, 8, 0, [], 0), (209, 1, .aload_n 2, 0, 0, 0, [], 0), (210, 1, .iconst 3, 0, 0, 0, [], 0), (211, 1, .aload_n 0, 0, 0, 0, [], 0), (212, 3, .getfield 255, 12, 29, 0, [], 0), (215, 1, .iastore, 0, 0, 0, [], 0), (216, 1, .aload_n 0, 0, 0, 0, [], 0), (217, 2, .bipush 59, 0, 0, 0, [], 0), (219, 3, .invokevirtual 172, 171, 0, 2, [12], 0), (222, 1, .return_, 0, 0, 0, [], 0)]
def mt_193 : ix_M := (⟨"CryGorgeModel", "readsStep", "()V"⟩, prog_14_method_43_code, 3, (Option.none : Option FieldType), 1, 12, mo_193, [])
def mo_194 : List ix_Op := [(0, 1, .aload_n 0, 0, 0, 0, [], 0), (1, 1, .iconst 0, 0, 0, 0, [], 0), (2, 3, .putfield 103, 12, 0, 0, [], 0), (5, 1, .aload_n 0, 0, 0, 0, [], 0), (6, 1, .iload_n 1, 0, 0, 0, [], 0), (7, 1, .iconst 0, 0, 0, 0, [], 0), (8, 1, .aload_n 0, 0, 0, 0, [], 0), (9, 3, .getfield 106, 12, 1, 0, [], 0), (12, 3, .invokestatic 137, 155, 1, 3, [], 0), (15, 3, .ifCond .eq 9, 13, 0, 0, [], 0), (18, 1, .iload_n 1, 0, 0, 0, [], 0), (19, 2, .bipush 60, 0, 0, 0, [], 0), (21, 3, .if_icmp .le 7, 15, 0, 0, [], 0), (24, 1, .iconst 1, 0, 0, 0, [], 0), (25, 3, .goto 4, 16, 0, 0, [], 0), (28, 1, .iconst 0, 0, 0, 0, [], 0), (29, 1, .iconst 1, 0, 0, 0, [], 0), (30, 1, .iconst 1, 0, 0, 0, [], 0), (31, 3, .invokevirtual 176, 154, 0, 4, [12], 0), (34, 3, .ifCond .eq 5, 22, 0, 0, [], 0), (37, 1, .iconst 0, 0, 0, 0, [], 0), (38, 1, .ireturn, 0, 0, 0, [], 0), (39, 1, .aload_n 0, 0, 0, 0, [], 0), (40, 1, .iload_n 1, 0, 0, 0, [], 0), (41, 3, .invokevirtual 180, 173, 0, 2, [12], 0), (44, 1, .iconst 0, 0, 0, 0, [], 0), (45, 1, .istore_n 2, 0, 0, 0, [], 0), (46, 1, .aload_n 0, 0, 0, 0, [], 0), (47, 3, .getfield 119, 12, 5, 0, [], 0), (50, 3, .ifCond .ne 141, 104, 0, 0, [], 0), (53, 1, .aload_n 0, 0, 0, 0, [], 0), (54, 3, .getfield 112, 12, 4, 0, [], 0), (57, 1, .aload_n 0, 0, 0, 0, [], 0), (58, 3, .getfield 109, 12, 2, 0, [], 0), (61, 3, .if_icmp .ge 130, 104, 0, 0, [], 0), (64, 1, .aload_n 0, 0, 0, 0, [], 0), (65, 3, .getfield 112, 12, 4, 0, [], 0), (68, 1, .istore_n 3, 0, 0, 0, [], 0), (69, 1, .aload_n 0, 0, 0, 0, [], 0), (70, 1, .iconst 0, 0, 0, 0, [], 0), (71, 2, .bipush 40, 0, 0, 0, [], 0), (73, 3, .invokevirtual 168, 165, 0, 3, [12], 0), (76, 2, .istore 4, 0, 0, 0, [], 0), (78, 1, .iconst 0, 0, 0, 0, [], 0), (79, 2, .istore 5, 0, 0, 0, [], 0), (81, 2, .iload 5, 0, 0, 0, [], 0), (83, 1, .iload_n 2, 0, 0, 0, [], 0), (84, 3, .if_icmp .ge 36, 65, 0, 0, [], 0), (87, 1, .aload_n 0, 0, 0, 0, [], 0), (88, 3, .getfield 119, 12, 5, 0, [], 0), (91, 3, .ifCond .ne 23, 63, 0, 0, [], 0), (94, 1, .aload_n 0, 0, 0, 0, [], 0), (95, 3, .getfield 58, 12, 25, 0, [], 0), (98, 2, .iload 5, 0, 0, 0, [], 0), (100, 1, .aaload, 0, 0, 0, [], 0), (101, 1, .iconst 0, 0, 0, 0, [], 0), (102, 1, .iaload, 0, 0, 0, [], 0), (103, 2, .iload 4, 0, 0, 0, [], 0), (105, 3, .if_icmp .ne 9, 63, 0, 0, [], 0), (108, 1, .aload_n 0, 0, 0, 0, [], 0), (109, 1, .iconst 2, 0, 0, 0, [], 0), (110, 1, .iload_n 3, 0, 0, 0, [], 0), (111, 3, .invokevirtual 132, 162, 0, 3, [12], 0), (114, 3, .iinc 5 1, 0, 0, 0, [], 0), (117, 3, .goto (-36), 45, 0, 0, [], 0), (120, 1, .aload_n 0, 0, 0, 0, [], 0), (121, 3, .getfield 119, 12, 5, 0, [], 0), (124, 3, .ifCond .ne 15, 75, 0, 0, [], 0), (127, 1, .iload_n 2, 0, 0, 0, [], 0), (128, 2, .bipush 6, 0, 0, 0, [], 0), (130, 3, .if_icmp .ne 9, 75, 0, 0, [], 0), (133, 1, .aload_n 0, 0, 0, 0, [], 0), (134, 1, .iconst 3, 0, 0, 0, [], 0), (135, 1, .iload_n 3, 0, 0, 0, [], 0), (136, 3, .invokevirtual 132, 162, 0, 3, [12], 0), (139, 1, .aload_n 0, 0, 0, 0, [], 0), (140, 1, .iconst 0, 0, 0, 0, [], 0), (141, 2, .bipush 99, 0, 0, 0, [], 0), (143, 3, .invokevirtual 168, 165, 0, 3, [12], 0), (146, 2, .istore 5, 0, 0, 0, [], 0), (148, 1, .aload_n 0, 0, 0, 0, [], 0), (149, 2, .bipush 59, 0, 0, 0, [], 0), (151, 3, .invokevirtual 172, 171, 0, 2, [12], 0), (154, 1, .aload_n 0, 0, 0, 0, [], 0), (155, 3, .getfield 119, 12, 5, 0, [], 0), (158, 3, .ifCond .ne 26, 101, 0, 0, [], 0), (161, 1, .aload_n 0, 0, 0, 0, [], 0), (162, 3, .getfield 58, 12, 25, 0, [], 0), (165, 1, .iload_n 2, 0, 0, 0, [], 0), (166, 1, .aaload, 0, 0, 0, [], 0), (167, 1, .iconst 0, 0, 0, 0, [], 0), (168, 2, .iload 4, 0, 0, 0, [], 0), (170, 1, .iastore, 0, 0, 0, [], 0), (171, 1, .aload_n 0, 0, 0, 0, [], 0), (172, 3, .getfield 58, 12, 25, 0, [], 0), (175, 1, .iload_n 2, 0, 0, 0, [], 0), (176, 1, .aaload, 0, 0, 0, [], 0), (177, 1, .iconst 1, 0, 0, 0, [], 0), (178, 2, .iload 5, 0, 0, 0, [], 0), (180, 1, .iastore, 0, 0, 0, [], 0), (181, 3, .iinc 2 1, 0, 0, 0, [], 0), (184, 1, .aload_n 0, 0, 0, 0, [], 0), (185, 3, .invokevirtual 125, 161, 0, 1, [12], 0), (188, 3, .goto (-142), 27, 0, 0, [], 0), (191, 1, .aload_n 0, 0, 0, 0, [], 0), (192, 3, .getfield 119, 12, 5, 0, [], 0), (195, 3, .ifCond .eq 8, 110, 0, 0, [], 0), (198, 1, .aload_n 0, 0, 0, 0, [], 0), (199, 3, .invokevirtual 186, 174, 0, 1, [12], 0), (202, 1, .ireturn, 0, 0, 0, [], 0), (203, 1, .aload_n 0, 0, 0, 0, [], 0), (204, 1, .iconst (-1), 0, 0, 0, [], 0), (205, 3, .putfield 9, 12, 3, 0, [], 0), (208, 1, .aload_n 0, 0, 0, 0, [], 0), (209, 1, .iload_n 2, 0, 0, 0, [], 0), (210, 3, .putfield 199, 12, 35, 0, [], 0), (213, 1, .aload_n 0, 0, 0, 0, [], 0), (214, 3, .getfield 58, 12, 25, 0, [], 0), (217, 1, .aload_n 0, 0, 0, 0, [], 0), (218, 3, .getfield 55, 12, 24, 0, [], 0), (221, 1, .iload_n 2, 0, 0, 0, [], 0), (222, 3, .invokestatic 189, 178, 1, 3, [], 0), (225, 1, .iload_n 2, 0, 0, 0, [], 0), (226, 1, .ireturn, 0, 0, 0, [], 0)]
def mt_194 : ix_M := (⟨"CryGorgeModel", "heard", "(I)I"⟩, prog_14_method_44_code, 6, (Option.some FieldType.int), 2, 12, mo_194, [])
def mo_195 : List ix_Op := [(0, 1, .aload_n 0, 0, 0, 0, [], 0), (1, 1, .iconst 0, 0, 0, 0, [], 0), (2, 3, .putfield 103, 12, 0, 0, [], 0), (5, 1, .aload_n 0, 0, 0, 0, [], 0), (6, 3, .getfield 9, 12, 3, 0, [], 0), (9, 1, .ireturn, 0, 0, 0, [], 0)]
def mt_195 : ix_M := (⟨"CryGorgeModel", "fault", "()I"⟩, prog_14_method_45_code, 1, (Option.some FieldType.int), 1, 12, mo_195, [])
def mo_196 : List ix_Op := [(0, 1, .iconst (-1), 0, 0, 0, [], 0), (1, 1, .istore_n 3, 0, 0, 0, [], 0), (2, 1, .iconst 0, 0, 0, 0, [], 0), (3, 2, .istore 4, 0, 0, 0, [], 0), (5, 2, .iload 4, 0, 0, 0, [], 0), (7, 1, .aload_n 0, 0, 0, 0, [], 0), (8, 3, .getfield 23, 12, 12, 0, [], 0), (11, 1, .iconst 1, 0, 0, 0, [], 0), (12, 1, .iaload, 0, 0, 0, [], 0), (13, 3, .if_icmp .ge 31, 29, 0, 0, [], 0), (16, 1, .iload_n 3, 0, 0, 0, [], 0), (17, 1, .aload_n 1, 0, 0, 0, [], 0), (18, 1, .iconst 0, 0, 0, 0, [], 0), (19, 2, .iload 4, 0, 0, 0, [], 0), (21, 1, .iadd, 0, 0, 0, [], 0), (22, 1, .iaload, 0, 0, 0, [], 0), (23, 1, .aload_n 1, 0, 0, 0, [], 0), (24, 1, .iconst 0, 0, 0, 0, [], 0), (25, 1, .iload_n 2, 0, 0, 0, [], 0), (26, 1, .iadd, 0, 0, 0, [], 0), (27, 1, .iaload, 0, 0, 0, [], 0), (28, 3, .if_icmp .ne 7, 24, 0, 0, [], 0), (31, 1, .iconst 1, 0, 0, 0, [], 0), (32, 3, .goto 4, 25, 0, 0, [], 0), (35, 1, .iconst 0, 0, 0, 0, [], 0), (36, 1, .iadd, 0, 0, 0, [], 0), (37, 1, .istore_n 3, 0, 0, 0, [], 0), (38, 3, .iinc 4 1, 0, 0, 0, [], 0), (41, 3, .goto (-36), 4, 0, 0, [], 0), (44, 1, .iload_n 3, 0, 0, 0, [], 0), (45, 1, .ireturn, 0, 0, 0, [], 0)]
def mt_196 : ix_M := (⟨"CryGorgeModel", "matesOf", "([II)I"⟩, prog_14_method_46_code, 5, (Option.some FieldType.int), 3, 12, mo_196, [])
def mo_197 : List ix_Op := [(0, 1, .iconst 0, 0, 0, 0, [], 0), (1, 1, .istore_n 3, 0, 0, 0, [], 0), (2, 1, .iconst 0, 0, 0, 0, [], 0), (3, 2, .istore 4, 0, 0, 0, [], 0), (5, 2, .iload 4, 0, 0, 0, [], 0), (7, 1, .aload_n 0, 0, 0, 0, [], 0), (8, 3, .getfield 23, 12, 12, 0, [], 0), (11, 1, .iconst 1, 0, 0, 0, [], 0), (12, 1, .iaload, 0, 0, 0, [], 0), (13, 3, .if_icmp .ge 27, 25, 0, 0, [], 0), (16, 1, .iload_n 3, 0, 0, 0, [], 0), (17, 1, .aload_n 1, 0, 0, 0, [], 0), (18, 1, .iconst 0, 0, 0, 0, [], 0), (19, 2, .iload 4, 0, 0, 0, [], 0), (21, 1, .iadd, 0, 0, 0, [], 0), (22, 1, .iaload, 0, 0, 0, [], 0), (23, 1, .iload_n 2, 0, 0, 0, [], 0), (24, 3, .if_icmp .ne 7, 20, 0, 0, [], 0), (27, 1, .iconst 1, 0, 0, 0, [], 0), (28, 3, .goto 4, 21, 0, 0, [], 0), (31, 1, .iconst 0, 0, 0, 0, [], 0), (32, 1, .iadd, 0, 0, 0, [], 0), (33, 1, .istore_n 3, 0, 0, 0, [], 0), (34, 3, .iinc 4 1, 0, 0, 0, [], 0), (37, 3, .goto (-32), 4, 0, 0, [], 0), (40, 1, .iload_n 3, 0, 0, 0, [], 0), (41, 1, .ireturn, 0, 0, 0, [], 0)]
def mt_197 : ix_M := (⟨"CryGorgeModel", "heldIn", "([II)I"⟩, prog_14_method_47_code, 5, (Option.some FieldType.int), 3, 12, mo_197, [])
def mo_198 : List ix_Op := [(0, 1, .aload_n 0, 0, 0, 0, [], 0), (1, 3, .getfield 64, 12, 27, 0, [], 0), (4, 1, .iconst 0, 0, 0, 0, [], 0), (5, 1, .iload_n 1, 0, 0, 0, [], 0), (6, 1, .iastore, 0, 0, 0, [], 0), (7, 1, .aload_n 0, 0, 0, 0, [], 0), (8, 3, .getfield 64, 12, 27, 0, [], 0), (11, 1, .iconst 1, 0, 0, 0, [], 0), (12, 1, .iload_n 2, 0, 0, 0, [], 0), (13, 1, .iastore, 0, 0, 0, [], 0), (14, 1, .aload_n 0, 0, 0, 0, [], 0), (15, 3, .getfield 64, 12, 27, 0, [], 0), (18, 1, .iconst 2, 0, 0, 0, [], 0), (19, 1, .iload_n 3, 0, 0, 0, [], 0), (20, 1, .iastore, 0, 0, 0, [], 0), (21, 1, .aload_n 0, 0, 0, 0, [], 0), (22, 3, .getfield 64, 12, 27, 0, [], 0), (25, 1, .iconst 3, 0, 0, 0, [], 0), (26, 2, .iload 4, 0, 0, 0, [], 0), (28, 1, .iastore, 0, 0, 0, [], 0), (29, 1, .aload_n 0, 0, 0, 0, [], 0), (30, 3, .getfield 64, 12, 27, 0, [], 0), (33, 1, .iconst 4, 0, 0, 0, [], 0), (34, 2, .iload 5, 0, 0, 0, [], 0), (36, 1, .iastore, 0, 0, 0, [], 0), (37, 1, .aload_n 0, 0, 0, 0, [], 0), (38, 3, .getfield 64, 12, 27, 0, [], 0), (41, 1, .iconst 5, 0, 0, 0, [], 0), (42, 2, .iload 6, 0, 0, 0, [], 0), (44, 1, .iastore, 0, 0, 0, [], 0), (45, 1, .aload_n 0, 0, 0, 0, [], 0), (46, 3, .getfield 64, 12, 27, 0, [], 0), (49, 2, .bipush 6, 0, 0, 0, [], 0), (51, 2, .iload 7, 0, 0, 0, [], 0), (53, 1, .iastore, 0, 0, 0, [], 0), (54, 1, .aload_n 0, 0, 0, 0, [], 0), (55, 3, .getfield 64, 12, 27, 0, [], 0), (58, 2, .bipush 7, 0, 0, 0, [], 0), (60, 2, .iload 8, 0, 0, 0, [], 0), (62, 1, .iastore, 0, 0, 0, [], 0), (63, 1, .aload_n 0, 0, 0, 0, [], 0), (64, 3, .invokevirtual 261, 191, 0, 1, [12], 0), (67, 1, .ireturn, 0, 0, 0, [], 0)]
def mt_198 : ix_M := (⟨"CryGorgeModel", "fadesBy", "(IIIIIIII)I"⟩, prog_14_method_48_code, 9, (Option.some FieldType.int), 9, 12, mo_198, [])
def mo_199 : List ix_Op := [(0, 2, .iload 5, 0, 0, 0, [], 0), (2, 1, .aload_n 0, 0, 0, 0, [], 0), (3, 1, .aload_n 0, 0, 0, 0, [], 0), (4, 3, .getfield 31, 12, 14, 0, [], 0), (7, 1, .iload_n 3, 0, 0, 0, [], 0), (8, 1, .aaload, 0, 0, 0, [], 0), (9, 1, .iconst 0, 0, 0, 0, [], 0), (10, 1, .iaload, 0, 0, 0, [], 0), (11, 2, .iload 4, 0, 0, 0, [], 0), (13, 1, .aload_n 1, 0, 0, 0, [], 0), (14, 2, .bipush 24, 0, 0, 0, [], 0), (16, 1, .iload_n 3, 0, 0, 0, [], 0), (17, 1, .iadd, 0, 0, 0, [], 0), (18, 1, .iaload, 0, 0, 0, [], 0), (19, 2, .iload 5, 0, 0, 0, [], 0), (21, 1, .aload_n 0, 0, 0, 0, [], 0), (22, 3, .getfield 37, 12, 16, 0, [], 0), (25, 1, .iload_n 2, 0, 0, 0, [], 0), (26, 1, .aaload, 0, 0, 0, [], 0), (27, 1, .iconst 0, 0, 0, 0, [], 0), (28, 1, .iaload, 0, 0, 0, [], 0), (29, 2, .iload 6, 0, 0, 0, [], 0), (31, 1, .iload_n 3, 0, 0, 0, [], 0), (32, 2, .iload 7, 0, 0, 0, [], 0), (34, 3, .invokevirtual 264, 198, 0, 9, [12], 0), (37, 3, .invokestatic 211, 156, 1, 2, [], 0), (40, 1, .ireturn, 0, 0, 0, [], 0)]
def mt_199 : ix_M := (⟨"CryGorgeModel", "losesIn", "([IIIIIII)I"⟩, prog_14_method_49_code, 8, (Option.some FieldType.int), 8, 12, mo_199, [])
def mo_200 : List ix_Op := [(0, 1, .aload_n 1, 0, 0, 0, [], 0), (1, 1, .iconst 0, 0, 0, 0, [], 0), (2, 1, .iload_n 2, 0, 0, 0, [], 0), (3, 1, .iadd, 0, 0, 0, [], 0), (4, 1, .iaload, 0, 0, 0, [], 0), (5, 1, .istore_n 3, 0, 0, 0, [], 0), (6, 1, .aload_n 1, 0, 0, 0, [], 0), (7, 2, .bipush 8, 0, 0, 0, [], 0), (9, 1, .iload_n 2, 0, 0, 0, [], 0), (10, 1, .iadd, 0, 0, 0, [], 0), (11, 1, .iaload, 0, 0, 0, [], 0), (12, 2, .istore 4, 0, 0, 0, [], 0), (14, 1, .iload_n 3, 0, 0, 0, [], 0), (15, 2, .bipush (-2), 0, 0, 0, [], 0), (17, 3, .if_icmp .ne 5, 17, 0, 0, [], 0), (20, 1, .iconst 0, 0, 0, 0, [], 0), (21, 1, .ireturn, 0, 0, 0, [], 0), (22, 1, .iload_n 3, 0, 0, 0, [], 0), (23, 1, .iconst (-1), 0, 0, 0, [], 0), (24, 3, .if_icmp .ne 13, 26, 0, 0, [], 0), (27, 2, .iload 4, 0, 0, 0, [], 0), (29, 2, .iload 4, 0, 0, 0, [], 0), (31, 1, .iconst 2, 0, 0, 0, [], 0), (32, 1, .idiv, 0, 0, 0, [], 0), (33, 1, .isub, 0, 0, 0, [], 0), (34, 3, .goto 28, 44, 0, 0, [], 0), (37, 1, .aload_n 0, 0, 0, 0, [], 0), (38, 1, .aload_n 1, 0, 0, 0, [], 0), (39, 1, .iload_n 2, 0, 0, 0, [], 0), (40, 1, .iload_n 3, 0, 0, 0, [], 0), (41, 1, .aload_n 0, 0, 0, 0, [], 0), (42, 1, .aload_n 1, 0, 0, 0, [], 0), (43, 1, .iload_n 2, 0, 0, 0, [], 0), (44, 3, .invokevirtual 268, 196, 0, 3, [12], 0), (47, 2, .iload 4, 0, 0, 0, [], 0), (49, 1, .aload_n 1, 0, 0, 0, [], 0), (50, 2, .bipush 16, 0, 0, 0, [], 0), (52, 1, .iload_n 2, 0, 0, 0, [], 0), (53, 1, .iadd, 0, 0, 0, [], 0), (54, 1, .iaload, 0, 0, 0, [], 0), (55, 1, .aload_n 1, 0, 0, 0, [], 0), (56, 2, .bipush 31, 0, 0, 0, [], 0), (58, 1, .iaload, 0, 0, 0, [], 0), (59, 3, .invokevirtual 272, 199, 0, 8, [12], 0), (62, 1, .ireturn, 0, 0, 0, [], 0)]
def mt_200 : ix_M := (⟨"CryGorgeModel", "loses", "([II)I"⟩, prog_14_method_50_code, 5, (Option.some FieldType.int), 3, 12, mo_200, [])
def mo_201 : List ix_Op := [(0, 1, .iconst 0, 0, 0, 0, [], 0), (1, 1, .istore_n 2, 0, 0, 0, [], 0), (2, 1, .iload_n 2, 0, 0, 0, [], 0), (3, 1, .aload_n 0, 0, 0, 0, [], 0), (4, 3, .getfield 23, 12, 12, 0, [], 0), (7, 1, .iconst 1, 0, 0, 0, [], 0), (8, 1, .iaload, 0, 0, 0, [], 0), (9, 3, .if_icmp .ge 21, 18, 0, 0, [], 0), (12, 1, .aload_n 0, 0, 0, 0, [], 0), (13, 3, .getfield 76, 12, 32, 0, [], 0), (16, 1, .iload_n 2, 0, 0, 0, [], 0), (17, 1, .aload_n 0, 0, 0, 0, [], 0), (18, 1, .aload_n 1, 0, 0, 0, [], 0), (19, 1, .iload_n 2, 0, 0, 0, [], 0), (20, 3, .invokevirtual 276, 200, 0, 3, [12], 0), (23, 1, .iastore, 0, 0, 0, [], 0), (24, 3, .iinc 2 1, 0, 0, 0, [], 0), (27, 3, .goto (-25), 2, 0, 0, [], 0), (30, 1, .iconst 0, 0, 0, 0, [], 0), (31, 1, .istore_n 2, 0, 0, 0, [], 0), (32, 1, .iload_n 2, 0, 0, 0, [], 0), (33, 1, .aload_n 0, 0, 0, 0, [], 0), (34, 3, .getfield 23, 12, 12, 0, [], 0), (37, 1, .iconst 1, 0, 0, 0, [], 0), (38, 1, .iaload, 0, 0, 0, [], 0), (39, 3, .if_icmp .ge 48, 58, 0, 0, [], 0), (42, 1, .aload_n 1, 0, 0, 0, [], 0), (43, 2, .bipush 8, 0, 0, 0, [], 0), (45, 1, .iload_n 2, 0, 0, 0, [], 0), (46, 1, .iadd, 0, 0, 0, [], 0), (47, 1, .dup2, 0, 0, 0, [], 0), (48, 1, .iaload, 0, 0, 0, [], 0), (49, 1, .aload_n 0, 0, 0, 0, [], 0), (50, 3, .getfield 76, 12, 32, 0, [], 0), (53, 1, .iload_n 2, 0, 0, 0, [], 0), (54, 1, .iaload, 0, 0, 0, [], 0), (55, 1, .isub, 0, 0, 0, [], 0), (56, 1, .iastore, 0, 0, 0, [], 0), (57, 1, .aload_n 1, 0, 0, 0, [], 0), (58, 2, .bipush 16, 0, 0, 0, [], 0), (60, 1, .iload_n 2, 0, 0, 0, [], 0), (61, 1, .iadd, 0, 0, 0, [], 0), (62, 1, .dup2, 0, 0, 0, [], 0), (63, 1, .iaload, 0, 0, 0, [], 0), (64, 1, .aload_n 1, 0, 0, 0, [], 0), (65, 1, .iconst 0, 0, 0, 0, [], 0), (66, 1, .iload_n 2, 0, 0, 0, [], 0), (67, 1, .iadd, 0, 0, 0, [], 0), (68, 1, .iaload, 0, 0, 0, [], 0), (69, 2, .bipush (-2), 0, 0, 0, [], 0), (71, 3, .if_icmp .ne 7, 53, 0, 0, [], 0), (74, 1, .iconst 0, 0, 0, 0, [], 0), (75, 3, .goto 4, 54, 0, 0, [], 0), (78, 1, .iconst 1, 0, 0, 0, [], 0), (79, 1, .iadd, 0, 0, 0, [], 0), (80, 1, .iastore, 0, 0, 0, [], 0), (81, 3, .iinc 2 1, 0, 0, 0, [], 0), (84, 3, .goto (-52), 20, 0, 0, [], 0), (87, 1, .aload_n 1, 0, 0, 0, [], 0), (88, 2, .bipush 31, 0, 0, 0, [], 0), (90, 1, .dup2, 0, 0, 0, [], 0), (91, 1, .iaload, 0, 0, 0, [], 0), (92, 1, .iconst 1, 0, 0, 0, [], 0), (93, 1, .iadd, 0, 0, 0, [], 0), (94, 1, .iastore, 0, 0, 0, [], 0), (95, 1, .return_, 0, 0, 0, [], 0)]
def mt_201 : ix_M := (⟨"CryGorgeModel", "yearEnds", "([I)V"⟩, prog_14_method_51_code, 3, (Option.none : Option FieldType), 2, 12, mo_201, [])
def mo_202 : List ix_Op := [(0, 1, .aload_n 0, 0, 0, 0, [], 0), (1, 2, .bipush 24, 0, 0, 0, [], 0), (3, 1, .iload_n 1, 0, 0, 0, [], 0), (4, 1, .iadd, 0, 0, 0, [], 0), (5, 1, .iaload, 0, 0, 0, [], 0), (6, 3, .ifCond .ne 5, 8, 0, 0, [], 0), (9, 1, .iconst 0, 0, 0, 0, [], 0), (10, 1, .ireturn, 1, 0, 0, [], 0), (11, 1, .aload_n 0, 0, 0, 0, [], 0), (12, 2, .bipush 24, 0, 0, 0, [], 0), (14, 1, .iload_n 1, 0, 0, 0, [], 0), (15, 1, .iadd, 0, 0, 0, [], 0), (16, 1, .iconst 0, 0, 0, 0, [], 0), (17, 1, .iastore, 0, 0, 0, [], 0), (18, 1, .aload_n 0, 0, 0, 0, [], 0), (19, 2, .bipush 30, 0, 0, 0, [], 0), (21, 1, .dup2, 0, 0, 0, [], 0), (22, 1, .iaload, 0, 0, 0, [], 0), (23, 1, .iconst 1, 0, 0, 0, [], 0), (24, 1, .iadd, 0, 0, 0, [], 0), (25, 1, .iastore, 0, 0, 0, [], 0), (26, 1, .iconst 1, 0, 0, 0, [], 0), (27, 1, .ireturn, 1, 0, 0, [], 0)]
def mt_202 : ix_M := (⟨"CryGorgeModel", "bares", "([II)Z"⟩, prog_14_method_52_code, 2, (Option.some FieldType.boolean), 2, 12, mo_202, [])
def mo_203 : List ix_Op := [(0, 1, .aload_n 0, 0, 0, 0, [], 0), (1, 1, .iconst 0, 0, 0, 0, [], 0), (2, 1, .iload_n 1, 0, 0, 0, [], 0), (3, 1, .iadd, 0, 0, 0, [], 0), (4, 1, .iaload, 0, 0, 0, [], 0), (5, 3, .ifCond .ge 5, 8, 0, 0, [], 0), (8, 1, .iconst 0, 0, 0, 0, [], 0), (9, 1, .ireturn, 1, 0, 0, [], 0), (10, 1, .aload_n 0, 0, 0, 0, [], 0), (11, 1, .iconst 0, 0, 0, 0, [], 0), (12, 1, .iload_n 1, 0, 0, 0, [], 0), (13, 1, .iadd, 0, 0, 0, [], 0), (14, 1, .iconst (-1), 0, 0, 0, [], 0), (15, 1, .iastore, 0, 0, 0, [], 0), (16, 1, .iconst 1, 0, 0, 0, [], 0), (17, 1, .ireturn, 1, 0, 0, [], 0)]
def mt_203 : ix_M := (⟨"CryGorgeModel", "looses", "([II)Z"⟩, prog_14_method_53_code, 2, (Option.some FieldType.boolean), 2, 12, mo_203, [])
def mo_204 : List ix_Op := [(0, 1, .aload_n 1, 0, 0, 0, [], 0), (1, 1, .iconst 0, 0, 0, 0, [], 0), (2, 1, .iload_n 2, 0, 0, 0, [], 0), (3, 1, .iadd, 0, 0, 0, [], 0), (4, 1, .iaload, 0, 0, 0, [], 0), (5, 2, .bipush (-2), 0, 0, 0, [], 0), (7, 3, .if_icmp .eq 22, 19, 0, 0, [], 0), (10, 1, .aload_n 1, 0, 0, 0, [], 0), (11, 2, .bipush 16, 0, 0, 0, [], 0), (13, 1, .iload_n 2, 0, 0, 0, [], 0), (14, 1, .iadd, 0, 0, 0, [], 0), (15, 1, .iaload, 0, 0, 0, [], 0), (16, 1, .aload_n 0, 0, 0, 0, [], 0), (17, 3, .getfield 23, 12, 12, 0, [], 0), (20, 1, .iconst 2, 0, 0, 0, [], 0), (21, 1, .iaload, 0, 0, 0, [], 0), (22, 3, .if_icmp .lt 7, 19, 0, 0, [], 0), (25, 1, .iconst 1, 0, 0, 0, [], 0), (26, 3, .goto 4, 20, 0, 0, [], 0), (29, 1, .iconst 0, 0, 0, 0, [], 0), (30, 1, .ireturn, 1, 0, 0, [], 0)]
def mt_204 : ix_M := (⟨"CryGorgeModel", "isGrown", "([II)Z"⟩, prog_14_method_54_code, 3, (Option.some FieldType.boolean), 3, 12, mo_204, [])
def mo_205 : List ix_Op := [(0, 1, .aload_n 2, 0, 0, 0, [], 0), (1, 1, .iconst 1, 0, 0, 0, [], 0), (2, 1, .iaload, 0, 0, 0, [], 0), (3, 1, .istore_n 3, 0, 0, 0, [], 0), (4, 1, .aload_n 2, 0, 0, 0, [], 0), (5, 1, .iconst 2, 0, 0, 0, [], 0), (6, 1, .iaload, 0, 0, 0, [], 0), (7, 2, .istore 4, 0, 0, 0, [], 0), (9, 1, .aload_n 2, 0, 0, 0, [], 0), (10, 1, .iconst 0, 0, 0, 0, [], 0), (11, 1, .iaload, 0, 0, 0, [], 0), (12, 40, .tableswitch 206 0 5 #[40, 90, 128, 135, 141, 186], 130, 0, 0, [12, 47, 75, 79, 83, 115], 0), (52, 1, .aload_n 1, 0, 0, 0, [], 0), (53, 1, .iconst 0, 0, 0, 0, [], 0), (54, 1, .iload_n 3, 0, 0, 0, [], 0), (55, 1, .iadd, 0, 0, 0, [], 0), (56, 1, .iaload, 0, 0, 0, [], 0), (57, 2, .bipush (-2), 0, 0, 0, [], 0), (59, 3, .if_icmp .eq 32, 37, 0, 0, [], 0), (62, 1, .aload_n 1, 0, 0, 0, [], 0), (63, 1, .iconst 0, 0, 0, 0, [], 0), (64, 1, .iload_n 3, 0, 0, 0, [], 0), (65, 1, .iadd, 0, 0, 0, [], 0), (66, 1, .iaload, 0, 0, 0, [], 0), (67, 2, .iload 4, 0, 0, 0, [], 0), (69, 3, .if_icmp .eq 22, 37, 0, 0, [], 0), (72, 1, .aload_n 0, 0, 0, 0, [], 0), (73, 1, .aload_n 1, 0, 0, 0, [], 0), (74, 2, .iload 4, 0, 0, 0, [], 0), (76, 3, .invokevirtual 279, 197, 0, 3, [12], 0), (79, 1, .aload_n 0, 0, 0, 0, [], 0), (80, 3, .getfield 31, 12, 14, 0, [], 0), (83, 2, .iload 4, 0, 0, 0, [], 0), (85, 1, .aaload, 0, 0, 0, [], 0), (86, 1, .iconst 1, 0, 0, 0, [], 0), (87, 1, .iaload, 0, 0, 0, [], 0), (88, 3, .if_icmp .lt 5, 39, 0, 0, [], 0), (91, 1, .iconst 0, 0, 0, 0, [], 0), (92, 1, .ireturn, 1, 0, 0, [], 0), (93, 1, .aload_n 1, 0, 0, 0, [], 0), (94, 1, .iconst 0, 0, 0, 0, [], 0), (95, 1, .iload_n 3, 0, 0, 0, [], 0), (96, 1, .iadd, 0, 0, 0, [], 0), (97, 2, .iload 4, 0, 0, 0, [], 0), (99, 1, .iastore, 0, 0, 0, [], 0), (100, 1, .iconst 1, 0, 0, 0, [], 0), (101, 1, .ireturn, 1, 0, 0, [], 0), (102, 1, .aload_n 1, 0, 0, 0, [], 0), (103, 2, .bipush 24, 0, 0, 0, [], 0), (105, 2, .iload 4, 0, 0, 0, [], 0), (107, 1, .iadd, 0, 0, 0, [], 0), (108, 1, .iaload, 0, 0, 0, [], 0), (109, 1, .iconst 1, 0, 0, 0, [], 0), (110, 3, .if_icmp .eq 10, 58, 0, 0, [], 0), (113, 1, .aload_n 1, 0, 0, 0, [], 0), (114, 2, .bipush 30, 0, 0, 0, [], 0), (116, 1, .iaload, 0, 0, 0, [], 0), (117, 3, .ifCond .ne 5, 60, 0, 0, [], 0), (120, 1, .iconst 0, 0, 0, 0, [], 0), (121, 1, .ireturn, 1, 0, 0, [], 0), (122, 1, .aload_n 1, 0, 0, 0, [], 0), (123, 2, .bipush 24, 0, 0, 0, [], 0), (125, 2, .iload 4, 0, 0, 0, [], 0), (127, 1, .iadd, 0, 0, 0, [], 0), (128, 1, .iconst 1, 0, 0, 0, [], 0), (129, 1, .iastore, 0, 0, 0, [], 0), (130, 1, .aload_n 1, 0, 0, 0, [], 0), (131, 2, .bipush 30, 0, 0, 0, [], 0), (133, 1, .dup2, 0, 0, 0, [], 0), (134, 1, .iaload, 0, 0, 0, [], 0), (135, 1, .iconst 1, 0, 0, 0, [], 0), (136, 1, .isub, 0, 0, 0, [], 0), (137, 1, .iastore, 0, 0, 0, [], 0), (138, 1, .iconst 1, 0, 0, 0, [], 0), (139, 1, .ireturn, 1, 0, 0, [], 0), (140, 1, .aload_n 1, 0, 0, 0, [], 0), (141, 2, .iload 4, 0, 0, 0, [], 0), (143, 3, .invokestatic 282, 202, 1, 2, [], 0), (146, 1, .ireturn, 1, 0, 0, [], 0), (147, 1, .aload_n 1, 0, 0, 0, [], 0), (148, 1, .iload_n 3, 0, 0, 0, [], 0), (149, 3, .invokestatic 286, 203, 1, 2, [], 0), (152, 1, .ireturn, 1, 0, 0, [], 0), (153, 1, .aload_n 1, 0, 0, 0, [], 0), (154, 1, .iconst 0, 0, 0, 0, [], 0), (155, 1, .iload_n 3, 0, 0, 0, [], 0), (156, 1, .iadd, 0, 0, 0, [], 0), (157, 1, .iaload, 0, 0, 0, [], 0), (158, 2, .bipush (-2), 0, 0, 0, [], 0), (160, 3, .if_icmp .eq 14, 97, 0, 0, [], 0), (163, 1, .aload_n 1, 0, 0, 0, [], 0), (164, 2, .bipush 8, 0, 0, 0, [], 0), (166, 1, .iload_n 3, 0, 0, 0, [], 0), (167, 1, .iadd, 0, 0, 0, [], 0), (168, 1, .iaload, 0, 0, 0, [], 0), (169, 2, .bipush 99, 0, 0, 0, [], 0), (171, 3, .if_icmp .ne 5, 99, 0, 0, [], 0), (174, 1, .iconst 0, 0, 0, 0, [], 0), (175, 1, .ireturn, 1, 0, 0, [], 0), (176, 1, .aload_n 1, 0, 0, 0, [], 0), (177, 2, .bipush 8, 0, 0, 0, [], 0), (179, 1, .iload_n 3, 0, 0, 0, [], 0), (180, 1, .iadd, 0, 0, 0, [], 0), (181, 2, .bipush 99, 0, 0, 0, [], 0), (183, 1, .aload_n 1, 0, 0, 0, [], 0), (184, 2, .bipush 8, 0, 0, 0, [], 0), (186, 1, .iload_n 3, 0, 0, 0, [], 0), (187, 1, .iadd, 0, 0, 0, [], 0), (188, 1, .iaload, 0, 0, 0, [], 0), (189, 2, .iload 4, 0, 0, 0, [], 0), (191, 1, .iadd, 0, 0, 0, [], 0), (192, 3, .invokestatic 211, 156, 1, 2, [], 0), (195, 1, .iastore, 0, 0, 0, [], 0), (196, 1, .iconst 1, 0, 0, 0, [], 0), (197, 1, .ireturn, 1, 0, 0, [], 0), (198, 1, .aload_n 0, 0, 0, 0, [], 0), (199, 1, .aload_n 1, 0, 0, 0, [], 0), (200, 1, .iload_n 3, 0, 0, 0, [], 0), (201, 3, .invokevirtual 289, 204, 0, 3, [12], 0), (204, 3, .ifCond .ne 5, 122, 0, 0, [], 0), (207, 1, .iconst 0, 0, 0, 0, [], 0), (208, 1, .ireturn, 1, 0, 0, [], 0), (209, 1, .aload_n 1, 0, 0, 0, [], 0), (210, 1, .iconst 0, 0, 0, 0, [], 0), (211, 1, .iload_n 3, 0, 0, 0, [], 0), (212, 1, .iadd, 0, 0, 0, [], 0), (213, 2, .bipush (-2), 0, 0, 0, [], 0), (215, 1, .iastore, 0, 0, 0, [], 0), (216, 1, .iconst 1, 0, 0, 0, [], 0), (217, 1, .ireturn, 1, 0, 0, [], 0), (218, 1, .aload_n 1, 0, 0, 0, [], 0), (219, 2, .bipush 31, 0, 0, 0, [], 0), (221, 1, .iaload, 0, 0, 0, [], 0), (222, 3, .sipush 300, 0, 0, 0, [], 0), (225, 3, .if_icmp .lt 5, 137, 0, 0, [], 0), (228, 1, .iconst 0, 0, 0, 0, [], 0), (229, 1, .ireturn, 1, 0, 0, [], 0), (230, 1, .aload_n 0, 0, 0, 0, [], 0), (231, 1, .aload_n 1, 0, 0, 0, [], 0), (232, 3, .invokevirtual 292, 201, 0, 2, [12], 0), (235, 1, .iconst 1, 0, 0, 0, [], 0), (236, 1, .ireturn, 1, 0, 0, [], 0)]
def mt_205 : ix_M := (⟨"CryGorgeModel", "does", "([I[I)Z"⟩, prog_14_method_55_code, 5, (Option.some FieldType.boolean), 3, 12, mo_205, [])
def mo_206 : List ix_Op := [(0, 1, .iload_n 1, 0, 0, 0, [], 0), (1, 1, .istore_n 3, 0, 0, 0, [], 0), (2, 1, .iload_n 3, 0, 0, 0, [], 0), (3, 1, .iload_n 2, 0, 0, 0, [], 0), (4, 3, .if_icmp .ge 152, 88, 0, 0, [], 0), (7, 1, .aload_n 0, 0, 0, 0, [], 0), (8, 3, .getfield 296, 12, 40, 0, [], 0), (11, 3, .sipush 200, 0, 0, 0, [], 0), (14, 3, .if_icmp .ge 142, 88, 0, 0, [], 0), (17, 1, .aload_n 0, 0, 0, 0, [], 0), (18, 1, .dup, 0, 0, 0, [], 0), (19, 3, .getfield 296, 12, 40, 0, [], 0), (22, 1, .iconst 1, 0, 0, 0, [], 0), (23, 1, .iadd, 0, 0, 0, [], 0), (24, 3, .putfield 296, 12, 40, 0, [], 0), (27, 1, .aload_n 0, 0, 0, 0, [], 0), (28, 3, .getfield 67, 12, 28, 0, [], 0), (31, 1, .iload_n 3, 0, 0, 0, [], 0), (32, 1, .aaload, 0, 0, 0, [], 0), (33, 1, .iconst 0, 0, 0, 0, [], 0), (34, 1, .iaload, 0, 0, 0, [], 0), (35, 2, .bipush 7, 0, 0, 0, [], 0), (37, 3, .if_icmp .ne 53, 51, 0, 0, [], 0), (40, 1, .iconst 0, 0, 0, 0, [], 0), (41, 2, .istore 4, 0, 0, 0, [], 0), (43, 2, .iload 4, 0, 0, 0, [], 0), (45, 1, .aload_n 0, 0, 0, 0, [], 0), (46, 3, .getfield 67, 12, 28, 0, [], 0), (49, 1, .iload_n 3, 0, 0, 0, [], 0), (50, 1, .aaload, 0, 0, 0, [], 0), (51, 1, .iconst 1, 0, 0, 0, [], 0), (52, 1, .iaload, 0, 0, 0, [], 0), (53, 3, .if_icmp .ge 34, 50, 0, 0, [], 0), (56, 1, .aload_n 0, 0, 0, 0, [], 0), (57, 3, .getfield 296, 12, 40, 0, [], 0), (60, 3, .sipush 200, 0, 0, 0, [], 0), (63, 3, .if_icmp .ge 24, 50, 0, 0, [], 0), (66, 1, .aload_n 0, 0, 0, 0, [], 0), (67, 1, .iload_n 3, 0, 0, 0, [], 0), (68, 1, .iconst 1, 0, 0, 0, [], 0), (69, 1, .iadd, 0, 0, 0, [], 0), (70, 1, .aload_n 0, 0, 0, 0, [], 0), (71, 3, .getfield 67, 12, 28, 0, [], 0), (74, 1, .iload_n 3, 0, 0, 0, [], 0), (75, 1, .aaload, 0, 0, 0, [], 0), (76, 1, .iconst 3, 0, 0, 0, [], 0), (77, 1, .iaload, 0, 0, 0, [], 0), (78, 3, .invokevirtual 299, 206, 0, 3, [12], 0), (81, 3, .iinc 4 1, 0, 0, 0, [], 0), (84, 3, .goto (-41), 25, 0, 0, [], 0), (87, 3, .goto 57, 80, 0, 0, [], 0), (90, 1, .aload_n 0, 0, 0, 0, [], 0), (91, 1, .aload_n 0, 0, 0, 0, [], 0), (92, 3, .getfield 70, 12, 30, 0, [], 0), (95, 1, .aload_n 0, 0, 0, 0, [], 0), (96, 3, .getfield 67, 12, 28, 0, [], 0), (99, 1, .iload_n 3, 0, 0, 0, [], 0), (100, 1, .aaload, 0, 0, 0, [], 0), (101, 3, .invokevirtual 302, 205, 0, 3, [12], 0), (104, 2, .istore 4, 0, 0, 0, [], 0), (106, 1, .aload_n 0, 0, 0, 0, [], 0), (107, 1, .dup, 0, 0, 0, [], 0), (108, 3, .getfield 306, 12, 41, 0, [], 0), (111, 2, .iload 4, 0, 0, 0, [], 0), (113, 3, .ifCond .eq 7, 67, 0, 0, [], 0), (116, 1, .iconst 1, 0, 0, 0, [], 0), (117, 3, .goto 4, 68, 0, 0, [], 0), (120, 1, .iconst 0, 0, 0, 0, [], 0), (121, 1, .iadd, 0, 0, 0, [], 0), (122, 3, .putfield 306, 12, 41, 0, [], 0), (125, 1, .aload_n 0, 0, 0, 0, [], 0), (126, 1, .dup, 0, 0, 0, [], 0), (127, 3, .getfield 205, 12, 37, 0, [], 0), (130, 2, .iload 4, 0, 0, 0, [], 0), (132, 3, .ifCond .eq 7, 77, 0, 0, [], 0), (135, 1, .iconst 0, 0, 0, 0, [], 0), (136, 3, .goto 4, 78, 0, 0, [], 0), (139, 1, .iconst 1, 0, 0, 0, [], 0), (140, 1, .iadd, 0, 0, 0, [], 0), (141, 3, .putfield 205, 12, 37, 0, [], 0), (144, 1, .aload_n 0, 0, 0, 0, [], 0), (145, 3, .getfield 67, 12, 28, 0, [], 0), (148, 1, .iload_n 3, 0, 0, 0, [], 0), (149, 1, .aaload, 0, 0, 0, [], 0), (150, 1, .iconst 3, 0, 0, 0, [], 0), (151, 1, .iaload, 0, 0, 0, [], 0), (152, 1, .istore_n 3, 0, 0, 0, [], 0), (153, 3, .goto (-151), 2, 0, 0, [], 0), (156, 1, .return_, 0, 0, 0, [], 0)]
def mt_206 : ix_M := (⟨"CryGorgeModel", "goes", "(II)V"⟩, prog_14_method_56_code, 5, (Option.none : Option FieldType), 3, 12, mo_206, [])
def mo_207 : List ix_Op := [(0, 1, .aload_n 0, 0, 0, 0, [], 0), (1, 1, .iconst 0, 0, 0, 0, [], 0), (2, 3, .putfield 103, 12, 0, 0, [], 0), (5, 1, .aload_n 0, 0, 0, 0, [], 0), (6, 1, .iload_n 1, 0, 0, 0, [], 0), (7, 1, .iconst 0, 0, 0, 0, [], 0), (8, 1, .aload_n 0, 0, 0, 0, [], 0), (9, 3, .getfield 106, 12, 1, 0, [], 0), (12, 3, .invokestatic 137, 155, 1, 3, [], 0), (15, 3, .ifCond .eq 10, 13, 0, 0, [], 0), (18, 1, .iload_n 1, 0, 0, 0, [], 0), (19, 3, .sipush 150, 0, 0, 0, [], 0), (22, 3, .if_icmp .le 7, 15, 0, 0, [], 0), (25, 1, .iconst 1, 0, 0, 0, [], 0), (26, 3, .goto 4, 16, 0, 0, [], 0), (29, 1, .iconst 0, 0, 0, 0, [], 0), (30, 1, .iconst 1, 0, 0, 0, [], 0), (31, 1, .iconst 1, 0, 0, 0, [], 0), (32, 3, .invokevirtual 176, 154, 0, 4, [12], 0), (35, 3, .ifCond .eq 5, 22, 0, 0, [], 0), (38, 1, .iconst 0, 0, 0, 0, [], 0), (39, 1, .ireturn, 0, 0, 0, [], 0), (40, 1, .aload_n 0, 0, 0, 0, [], 0), (41, 3, .getfield 202, 12, 36, 0, [], 0), (44, 2, .bipush 16, 0, 0, 0, [], 0), (46, 3, .if_icmp .ne 16, 34, 0, 0, [], 0), (49, 1, .aload_n 0, 0, 0, 0, [], 0), (50, 1, .iconst 0, 0, 0, 0, [], 0), (51, 3, .putfield 106, 12, 1, 0, [], 0), (54, 1, .aload_n 0, 0, 0, 0, [], 0), (55, 1, .iconst (-1), 0, 0, 0, [], 0), (56, 3, .putfield 9, 12, 3, 0, [], 0), (59, 2, .bipush (-20), 0, 0, 0, [], 0), (61, 1, .ireturn, 0, 0, 0, [], 0), (62, 1, .aload_n 0, 0, 0, 0, [], 0), (63, 1, .iload_n 1, 0, 0, 0, [], 0), (64, 3, .invokevirtual 180, 173, 0, 2, [12], 0), (67, 1, .aload_n 0, 0, 0, 0, [], 0), (68, 1, .iconst 0, 0, 0, 0, [], 0), (69, 3, .putfield 255, 12, 29, 0, [], 0), (72, 1, .aload_n 0, 0, 0, 0, [], 0), (73, 3, .getfield 119, 12, 5, 0, [], 0), (76, 3, .ifCond .ne 25, 53, 0, 0, [], 0), (79, 1, .aload_n 0, 0, 0, 0, [], 0), (80, 3, .getfield 112, 12, 4, 0, [], 0), (83, 1, .aload_n 0, 0, 0, 0, [], 0), (84, 3, .getfield 109, 12, 2, 0, [], 0), (87, 3, .if_icmp .ge 14, 53, 0, 0, [], 0), (90, 1, .aload_n 0, 0, 0, 0, [], 0), (91, 3, .invokevirtual 258, 193, 0, 1, [12], 0), (94, 1, .aload_n 0, 0, 0, 0, [], 0), (95, 3, .invokevirtual 125, 161, 0, 1, [12], 0), (98, 3, .goto (-26), 40, 0, 0, [], 0), (101, 1, .aload_n 0, 0, 0, 0, [], 0), (102, 3, .getfield 119, 12, 5, 0, [], 0), (105, 3, .ifCond .eq 8, 59, 0, 0, [], 0), (108, 1, .aload_n 0, 0, 0, 0, [], 0), (109, 3, .invokevirtual 186, 174, 0, 1, [12], 0), (112, 1, .ireturn, 0, 0, 0, [], 0), (113, 1, .aload_n 0, 0, 0, 0, [], 0), (114, 1, .iconst (-1), 0, 0, 0, [], 0), (115, 3, .putfield 9, 12, 3, 0, [], 0), (118, 1, .aload_n 0, 0, 0, 0, [], 0), (119, 3, .getfield 70, 12, 30, 0, [], 0), (122, 1, .aload_n 0, 0, 0, 0, [], 0), (123, 3, .getfield 79, 12, 33, 0, [], 0), (126, 1, .aload_n 0, 0, 0, 0, [], 0), (127, 3, .getfield 202, 12, 36, 0, [], 0), (130, 1, .aaload, 0, 0, 0, [], 0), (131, 3, .invokestatic 309, 179, 1, 2, [], 0), (134, 1, .aload_n 0, 0, 0, 0, [], 0), (135, 1, .dup, 0, 0, 0, [], 0), (136, 3, .getfield 202, 12, 36, 0, [], 0), (139, 1, .iconst 1, 0, 0, 0, [], 0), (140, 1, .iadd, 0, 0, 0, [], 0), (141, 3, .putfield 202, 12, 36, 0, [], 0), (144, 1, .aload_n 0, 0, 0, 0, [], 0), (145, 1, .iconst 0, 0, 0, 0, [], 0), (146, 3, .putfield 296, 12, 40, 0, [], 0), (149, 1, .aload_n 0, 0, 0, 0, [], 0), (150, 1, .iconst 0, 0, 0, 0, [], 0), (151, 3, .putfield 306, 12, 41, 0, [], 0), (154, 1, .aload_n 0, 0, 0, 0, [], 0), (155, 1, .iconst 0, 0, 0, 0, [], 0), (156, 3, .putfield 205, 12, 37, 0, [], 0), (159, 1, .aload_n 0, 0, 0, 0, [], 0), (160, 1, .iconst 0, 0, 0, 0, [], 0), (161, 1, .aload_n 0, 0, 0, 0, [], 0), (162, 3, .getfield 255, 12, 29, 0, [], 0), (165, 3, .invokevirtual 299, 206, 0, 3, [12], 0), (168, 1, .aload_n 0, 0, 0, 0, [], 0), (169, 3, .getfield 306, 12, 41, 0, [], 0), (172, 1, .ireturn, 0, 0, 0, [], 0)]
def mt_207 : ix_M := (⟨"CryGorgeModel", "work", "(I)I"⟩, prog_14_method_57_code, 2, (Option.some FieldType.int), 2, 12, mo_207, [])
def mo_208 : List ix_Op := [(0, 1, .aload_n 0, 0, 0, 0, [], 0), (1, 1, .iconst 0, 0, 0, 0, [], 0), (2, 3, .putfield 103, 12, 0, 0, [], 0), (5, 1, .aload_n 0, 0, 0, 0, [], 0), (6, 3, .getfield 202, 12, 36, 0, [], 0), (9, 3, .ifCond .ne 5, 8, 0, 0, [], 0), (12, 1, .iconst (-1), 0, 0, 0, [], 0), (13, 1, .ireturn, 0, 0, 0, [], 0), (14, 1, .aload_n 0, 0, 0, 0, [], 0), (15, 1, .dup, 0, 0, 0, [], 0), (16, 3, .getfield 202, 12, 36, 0, [], 0), (19, 1, .iconst 1, 0, 0, 0, [], 0), (20, 1, .isub, 0, 0, 0, [], 0), (21, 3, .putfield 202, 12, 36, 0, [], 0), (24, 1, .aload_n 0, 0, 0, 0, [], 0), (25, 3, .getfield 79, 12, 33, 0, [], 0), (28, 1, .aload_n 0, 0, 0, 0, [], 0), (29, 3, .getfield 202, 12, 36, 0, [], 0), (32, 1, .aaload, 0, 0, 0, [], 0), (33, 1, .aload_n 0, 0, 0, 0, [], 0), (34, 3, .getfield 70, 12, 30, 0, [], 0), (37, 3, .invokestatic 309, 179, 1, 2, [], 0), (40, 1, .aload_n 0, 0, 0, 0, [], 0), (41, 1, .iconst 0, 0, 0, 0, [], 0), (42, 3, .putfield 205, 12, 37, 0, [], 0), (45, 1, .aload_n 0, 0, 0, 0, [], 0), (46, 3, .getfield 202, 12, 36, 0, [], 0), (49, 1, .ireturn, 0, 0, 0, [], 0)]
def mt_208 : ix_M := (⟨"CryGorgeModel", "undo", "()I"⟩, prog_14_method_58_code, 1, (Option.some FieldType.int), 1, 12, mo_208, [])
def mo_209 : List ix_Op := [(0, 1, .iconst 0, 0, 0, 0, [], 0), (1, 1, .istore_n 2, 0, 0, 0, [], 0), (2, 1, .iconst 0, 0, 0, 0, [], 0), (3, 1, .istore_n 3, 0, 0, 0, [], 0), (4, 1, .iload_n 3, 0, 0, 0, [], 0), (5, 1, .aload_n 0, 0, 0, 0, [], 0), (6, 3, .getfield 23, 12, 12, 0, [], 0), (9, 1, .iconst 1, 0, 0, 0, [], 0), (10, 1, .iaload, 0, 0, 0, [], 0), (11, 3, .if_icmp .ge 18, 20, 0, 0, [], 0), (14, 1, .iload_n 2, 0, 0, 0, [], 0), (15, 1, .aload_n 1, 0, 0, 0, [], 0), (16, 2, .bipush 8, 0, 0, 0, [], 0), (18, 1, .iload_n 3, 0, 0, 0, [], 0), (19, 1, .iadd, 0, 0, 0, [], 0), (20, 1, .iaload, 0, 0, 0, [], 0), (21, 1, .iadd, 0, 0, 0, [], 0), (22, 1, .istore_n 2, 0, 0, 0, [], 0), (23, 3, .iinc 3 1, 0, 0, 0, [], 0), (26, 3, .goto (-22), 4, 0, 0, [], 0), (29, 1, .iload_n 2, 0, 0, 0, [], 0), (30, 1, .ireturn, 0, 0, 0, [], 0)]
def mt_209 : ix_M := (⟨"CryGorgeModel", "strongIn", "([I)I"⟩, prog_14_method_59_code, 4, (Option.some FieldType.int), 2, 12, mo_209, [])
def mo_210 : List ix_Op := [(0, 1, .iconst 0, 0, 0, 0, [], 0), (1, 1, .istore_n 2, 0, 0, 0, [], 0), (2, 1, .iconst 0, 0, 0, 0, [], 0), (3, 1, .istore_n 3, 0, 0, 0, [], 0), (4, 1, .iload_n 3, 0, 0, 0, [], 0), (5, 1, .aload_n 0, 0, 0, 0, [], 0), (6, 3, .getfield 23, 12, 12, 0, [], 0), (9, 1, .iconst 1, 0, 0, 0, [], 0), (10, 1, .iaload, 0, 0, 0, [], 0), (11, 3, .if_icmp .ge 28, 26, 0, 0, [], 0), (14, 1, .iload_n 2, 0, 0, 0, [], 0), (15, 1, .aload_n 1, 0, 0, 0, [], 0), (16, 2, .bipush 8, 0, 0, 0, [], 0), (18, 1, .iload_n 3, 0, 0, 0, [], 0), (19, 1, .iadd, 0, 0, 0, [], 0), (20, 1, .iaload, 0, 0, 0, [], 0), (21, 3, .ifCond .ne 9, 21, 0, 0, [], 0), (24, 1, .iconst 1, 0, 0, 0, [], 0), (25, 1, .iload_n 3, 0, 0, 0, [], 0), (26, 1, .ishl, 0, 0, 0, [], 0), (27, 3, .goto 4, 22, 0, 0, [], 0), (30, 1, .iconst 0, 0, 0, 0, [], 0), (31, 1, .ior, 0, 0, 0, [], 0), (32, 1, .istore_n 2, 0, 0, 0, [], 0), (33, 3, .iinc 3 1, 0, 0, 0, [], 0), (36, 3, .goto (-32), 4, 0, 0, [], 0), (39, 1, .iload_n 2, 0, 0, 0, [], 0), (40, 1, .ireturn, 0, 0, 0, [], 0)]
def mt_210 : ix_M := (⟨"CryGorgeModel", "goneIn", "([I)I"⟩, prog_14_method_60_code, 4, (Option.some FieldType.int), 2, 12, mo_210, [])
def mo_211 : List ix_Op := [(0, 1, .aload_n 0, 0, 0, 0, [], 0), (1, 1, .iconst 0, 0, 0, 0, [], 0), (2, 3, .putfield 103, 12, 0, 0, [], 0), (5, 1, .aload_n 0, 0, 0, 0, [], 0), (6, 1, .iload_n 1, 0, 0, 0, [], 0), (7, 1, .iconst 0, 0, 0, 0, [], 0), (8, 2, .bipush 10, 0, 0, 0, [], 0), (10, 3, .invokestatic 137, 155, 1, 3, [], 0), (13, 3, .ifCond .ne 7, 11, 0, 0, [], 0), (16, 1, .iconst 1, 0, 0, 0, [], 0), (17, 3, .goto 4, 12, 0, 0, [], 0), (20, 1, .iconst 0, 0, 0, 0, [], 0), (21, 1, .iconst 1, 0, 0, 0, [], 0), (22, 1, .iconst 1, 0, 0, 0, [], 0), (23, 3, .invokevirtual 176, 154, 0, 4, [12], 0), (26, 3, .ifCond .eq 5, 18, 0, 0, [], 0), (29, 1, .iconst 0, 0, 0, 0, [], 0), (30, 1, .ireturn, 0, 0, 0, [], 0), (31, 1, .iconst 0, 0, 0, 0, [], 0), (32, 1, .istore_n 2, 0, 0, 0, [], 0), (33, 1, .iconst 0, 0, 0, 0, [], 0), (34, 1, .istore_n 3, 0, 0, 0, [], 0), (35, 1, .iconst 0, 0, 0, 0, [], 0), (36, 2, .istore 4, 0, 0, 0, [], 0), (38, 2, .iload 4, 0, 0, 0, [], 0), (40, 1, .aload_n 0, 0, 0, 0, [], 0), (41, 3, .getfield 23, 12, 12, 0, [], 0), (44, 1, .iconst 1, 0, 0, 0, [], 0), (45, 1, .iaload, 0, 0, 0, [], 0), (46, 3, .if_icmp .ge 57, 63, 0, 0, [], 0), (49, 1, .iload_n 2, 0, 0, 0, [], 0), (50, 1, .aload_n 0, 0, 0, 0, [], 0), (51, 3, .getfield 70, 12, 30, 0, [], 0), (54, 1, .iconst 0, 0, 0, 0, [], 0), (55, 2, .iload 4, 0, 0, 0, [], 0), (57, 1, .iadd, 0, 0, 0, [], 0), (58, 1, .iaload, 0, 0, 0, [], 0), (59, 3, .ifCond .lt 10, 42, 0, 0, [], 0), (62, 1, .iconst 1, 0, 0, 0, [], 0), (63, 2, .iload 4, 0, 0, 0, [], 0), (65, 1, .ishl, 0, 0, 0, [], 0), (66, 3, .goto 4, 43, 0, 0, [], 0), (69, 1, .iconst 0, 0, 0, 0, [], 0), (70, 1, .ior, 0, 0, 0, [], 0), (71, 1, .istore_n 2, 0, 0, 0, [], 0), (72, 1, .iload_n 3, 0, 0, 0, [], 0), (73, 1, .aload_n 0, 0, 0, 0, [], 0), (74, 3, .getfield 70, 12, 30, 0, [], 0), (77, 1, .iconst 0, 0, 0, 0, [], 0), (78, 2, .iload 4, 0, 0, 0, [], 0), (80, 1, .iadd, 0, 0, 0, [], 0), (81, 1, .iaload, 0, 0, 0, [], 0), (82, 2, .bipush (-2), 0, 0, 0, [], 0), (84, 3, .if_icmp .ne 10, 58, 0, 0, [], 0), (87, 1, .iconst 1, 0, 0, 0, [], 0), (88, 2, .iload 4, 0, 0, 0, [], 0), (90, 1, .ishl, 0, 0, 0, [], 0), (91, 3, .goto 4, 59, 0, 0, [], 0), (94, 1, .iconst 0, 0, 0, 0, [], 0), (95, 1, .ior, 0, 0, 0, [], 0), (96, 1, .istore_n 3, 0, 0, 0, [], 0), (97, 3, .iinc 4 1, 0, 0, 0, [], 0), (100, 3, .goto (-62), 24, 0, 0, [], 0), (103, 1, .iload_n 1, 0, 0, 0, [], 0), (104, 56, .tableswitch 109 0 9 #[56, 56, 63, 71, 78, 86, 88, 90, 99, 104], 100, 0, 0, [65, 65, 70, 75, 80, 85, 87, 89, 94, 97], 0), (160, 1, .aload_n 0, 0, 0, 0, [], 0), (161, 3, .getfield 23, 12, 12, 0, [], 0), (164, 1, .iload_n 1, 0, 0, 0, [], 0), (165, 1, .iaload, 0, 0, 0, [], 0), (166, 1, .ireturn, 0, 0, 0, [], 0), (167, 1, .aload_n 0, 0, 0, 0, [], 0), (168, 3, .getfield 70, 12, 30, 0, [], 0), (171, 2, .bipush 31, 0, 0, 0, [], 0), (173, 1, .iaload, 0, 0, 0, [], 0), (174, 1, .ireturn, 0, 0, 0, [], 0), (175, 1, .aload_n 0, 0, 0, 0, [], 0), (176, 3, .getfield 23, 12, 12, 0, [], 0), (179, 1, .iconst 2, 0, 0, 0, [], 0), (180, 1, .iaload, 0, 0, 0, [], 0), (181, 1, .ireturn, 0, 0, 0, [], 0), (182, 1, .aload_n 0, 0, 0, 0, [], 0), (183, 3, .getfield 70, 12, 30, 0, [], 0), (186, 2, .bipush 30, 0, 0, 0, [], 0), (188, 1, .iaload, 0, 0, 0, [], 0), (189, 1, .ireturn, 0, 0, 0, [], 0), (190, 1, .iload_n 2, 0, 0, 0, [], 0), (191, 1, .ireturn, 0, 0, 0, [], 0), (192, 1, .iload_n 3, 0, 0, 0, [], 0), (193, 1, .ireturn, 0, 0, 0, [], 0), (194, 1, .aload_n 0, 0, 0, 0, [], 0), (195, 1, .aload_n 0, 0, 0, 0, [], 0), (196, 3, .getfield 70, 12, 30, 0, [], 0), (199, 3, .invokevirtual 313, 210, 0, 2, [12], 0), (202, 1, .ireturn, 0, 0, 0, [], 0), (203, 1, .aload_n 0, 0, 0, 0, [], 0), (204, 3, .getfield 199, 12, 35, 0, [], 0), (207, 1, .ireturn, 0, 0, 0, [], 0), (208, 1, .aload_n 0, 0, 0, 0, [], 0), (209, 3, .getfield 205, 12, 37, 0, [], 0), (212, 1, .ireturn, 0, 0, 0, [], 0), (213, 1, .aload_n 0, 0, 0, 0, [], 0), (214, 1, .aload_n 0, 0, 0, 0, [], 0), (215, 3, .getfield 70, 12, 30, 0, [], 0), (218, 3, .invokevirtual 317, 209, 0, 2, [12], 0), (221, 1, .ireturn, 0, 0, 0, [], 0)]
def mt_211 : ix_M := (⟨"CryGorgeModel", "told", "(I)I"⟩, prog_14_method_61_code, 5, (Option.some FieldType.int), 2, 12, mo_211, [])
def mo_212 : List ix_Op := [(0, 1, .iload_n 1, 0, 0, 0, [], 0), (1, 1, .iconst 0, 0, 0, 0, [], 0), (2, 1, .aload_n 0, 0, 0, 0, [], 0), (3, 3, .getfield 23, 12, 12, 0, [], 0), (6, 1, .iconst 0, 0, 0, 0, [], 0), (7, 1, .iaload, 0, 0, 0, [], 0), (8, 1, .iconst 1, 0, 0, 0, [], 0), (9, 1, .isub, 0, 0, 0, [], 0), (10, 3, .invokestatic 137, 155, 1, 3, [], 0), (13, 1, .ireturn, 1, 0, 0, [], 0)]
def mt_212 : ix_M := (⟨"CryGorgeModel", "isBay", "(I)Z"⟩, prog_14_method_62_code, 2, (Option.some FieldType.boolean), 2, 12, mo_212, [])
def mo_213 : List ix_Op := [(0, 1, .iload_n 1, 0, 0, 0, [], 0), (1, 1, .iconst 0, 0, 0, 0, [], 0), (2, 1, .aload_n 0, 0, 0, 0, [], 0), (3, 3, .getfield 23, 12, 12, 0, [], 0), (6, 1, .iconst 1, 0, 0, 0, [], 0), (7, 1, .iaload, 0, 0, 0, [], 0), (8, 1, .iconst 1, 0, 0, 0, [], 0), (9, 1, .isub, 0, 0, 0, [], 0), (10, 3, .invokestatic 137, 155, 1, 3, [], 0), (13, 1, .ireturn, 1, 0, 0, [], 0)]
def mt_213 : ix_M := (⟨"CryGorgeModel", "isCry", "(I)Z"⟩, prog_14_method_63_code, 2, (Option.some FieldType.boolean), 2, 12, mo_213, [])
def mo_214 : List ix_Op := [(0, 1, .iload_n 1, 0, 0, 0, [], 0), (1, 1, .iconst 0, 0, 0, 0, [], 0), (2, 1, .iconst 1, 0, 0, 0, [], 0), (3, 1, .aload_n 0, 0, 0, 0, [], 0), (4, 3, .getfield 23, 12, 12, 0, [], 0), (7, 1, .iconst 1, 0, 0, 0, [], 0), (8, 1, .iaload, 0, 0, 0, [], 0), (9, 1, .ishl, 0, 0, 0, [], 0), (10, 1, .iconst 1, 0, 0, 0, [], 0), (11, 1, .isub, 0, 0, 0, [], 0), (12, 3, .invokestatic 137, 155, 1, 3, [], 0), (15, 1, .ireturn, 1, 0, 0, [], 0)]
def mt_214 : ix_M := (⟨"CryGorgeModel", "areCries", "(I)Z"⟩, prog_14_method_64_code, 2, (Option.some FieldType.boolean), 2, 12, mo_214, [])
def mo_215 : List ix_Op := [(0, 1, .iconst 0, 0, 0, 0, [], 0), (1, 1, .istore_n 2, 0, 0, 0, [], 0), (2, 1, .iconst 0, 0, 0, 0, [], 0), (3, 1, .istore_n 3, 0, 0, 0, [], 0), (4, 1, .iload_n 3, 0, 0, 0, [], 0), (5, 1, .aload_n 0, 0, 0, 0, [], 0), (6, 3, .getfield 23, 12, 12, 0, [], 0), (9, 1, .iconst 0, 0, 0, 0, [], 0), (10, 1, .iaload, 0, 0, 0, [], 0), (11, 3, .if_icmp .ge 30, 27, 0, 0, [], 0), (14, 1, .iload_n 2, 0, 0, 0, [], 0), (15, 1, .aload_n 0, 0, 0, 0, [], 0), (16, 3, .getfield 43, 12, 18, 0, [], 0), (19, 1, .iload_n 1, 0, 0, 0, [], 0), (20, 1, .aaload, 0, 0, 0, [], 0), (21, 1, .iload_n 3, 0, 0, 0, [], 0), (22, 1, .iaload, 0, 0, 0, [], 0), (23, 3, .ifCond .le 9, 22, 0, 0, [], 0), (26, 1, .iconst 1, 0, 0, 0, [], 0), (27, 1, .iload_n 3, 0, 0, 0, [], 0), (28, 1, .ishl, 0, 0, 0, [], 0), (29, 3, .goto 4, 23, 0, 0, [], 0), (32, 1, .iconst 0, 0, 0, 0, [], 0), (33, 1, .ior, 0, 0, 0, [], 0), (34, 1, .istore_n 2, 0, 0, 0, [], 0), (35, 3, .iinc 3 1, 0, 0, 0, [], 0), (38, 3, .goto (-34), 4, 0, 0, [], 0), (41, 1, .iload_n 2, 0, 0, 0, [], 0), (42, 1, .ireturn, 0, 0, 0, [], 0)]
def mt_215 : ix_M := (⟨"CryGorgeModel", "pathsOf", "(I)I"⟩, prog_14_method_65_code, 4, (Option.some FieldType.int), 2, 12, mo_215, [])
def mo_216 : List ix_Op := [(0, 1, .aload_n 0, 0, 0, 0, [], 0), (1, 1, .iconst 0, 0, 0, 0, [], 0), (2, 3, .putfield 103, 12, 0, 0, [], 0), (5, 1, .aload_n 0, 0, 0, 0, [], 0), (6, 1, .aload_n 0, 0, 0, 0, [], 0), (7, 1, .iload_n 1, 0, 0, 0, [], 0), (8, 3, .invokevirtual 320, 212, 0, 2, [12], 0), (11, 3, .ifCond .ne 7, 10, 0, 0, [], 0), (14, 1, .iconst 1, 0, 0, 0, [], 0), (15, 3, .goto 4, 11, 0, 0, [], 0), (18, 1, .iconst 0, 0, 0, 0, [], 0), (19, 1, .iconst 1, 0, 0, 0, [], 0), (20, 1, .iconst 0, 0, 0, 0, [], 0), (21, 3, .invokevirtual 176, 154, 0, 4, [12], 0), (24, 3, .ifCond .ne 26, 28, 0, 0, [], 0), (27, 1, .aload_n 0, 0, 0, 0, [], 0), (28, 1, .iload_n 2, 0, 0, 0, [], 0), (29, 1, .iconst 0, 0, 0, 0, [], 0), (30, 1, .iconst 4, 0, 0, 0, [], 0), (31, 3, .invokestatic 137, 155, 1, 3, [], 0), (34, 3, .ifCond .ne 7, 23, 0, 0, [], 0), (37, 1, .iconst 1, 0, 0, 0, [], 0), (38, 3, .goto 4, 24, 0, 0, [], 0), (41, 1, .iconst 0, 0, 0, 0, [], 0), (42, 1, .iconst 2, 0, 0, 0, [], 0), (43, 1, .iconst 1, 0, 0, 0, [], 0), (44, 3, .invokevirtual 176, 154, 0, 4, [12], 0), (47, 3, .ifCond .eq 5, 30, 0, 0, [], 0), (50, 1, .iconst 0, 0, 0, 0, [], 0), (51, 1, .ireturn, 0, 0, 0, [], 0), (52, 1, .iconst 0, 0, 0, 0, [], 0), (53, 1, .istore_n 3, 0, 0, 0, [], 0), (54, 1, .iconst 0, 0, 0, 0, [], 0), (55, 2, .istore 4, 0, 0, 0, [], 0), (57, 2, .iload 4, 0, 0, 0, [], 0), (59, 1, .aload_n 0, 0, 0, 0, [], 0), (60, 3, .getfield 23, 12, 12, 0, [], 0), (63, 1, .iconst 1, 0, 0, 0, [], 0), (64, 1, .iaload, 0, 0, 0, [], 0), (65, 3, .if_icmp .ge 33, 58, 0, 0, [], 0), (68, 1, .iload_n 3, 0, 0, 0, [], 0), (69, 1, .aload_n 0, 0, 0, 0, [], 0), (70, 3, .getfield 70, 12, 30, 0, [], 0), (73, 1, .iconst 0, 0, 0, 0, [], 0), (74, 2, .iload 4, 0, 0, 0, [], 0), (76, 1, .iadd, 0, 0, 0, [], 0), (77, 1, .iaload, 0, 0, 0, [], 0), (78, 1, .iload_n 1, 0, 0, 0, [], 0), (79, 3, .if_icmp .ne 10, 53, 0, 0, [], 0), (82, 1, .iconst 1, 0, 0, 0, [], 0), (83, 2, .iload 4, 0, 0, 0, [], 0), (85, 1, .ishl, 0, 0, 0, [], 0), (86, 3, .goto 4, 54, 0, 0, [], 0), (89, 1, .iconst 0, 0, 0, 0, [], 0), (90, 1, .ior, 0, 0, 0, [], 0), (91, 1, .istore_n 3, 0, 0, 0, [], 0), (92, 3, .iinc 4 1, 0, 0, 0, [], 0), (95, 3, .goto (-38), 34, 0, 0, [], 0), (98, 1, .iload_n 2, 0, 0, 0, [], 0), (99, 25, .tableswitch 43 2 4 #[25, 27, 37], 73, 0, 0, [60, 62, 69], 0), (124, 1, .iload_n 3, 0, 0, 0, [], 0), (125, 1, .ireturn, 0, 0, 0, [], 0), (126, 1, .aload_n 0, 0, 0, 0, [], 0), (127, 3, .getfield 70, 12, 30, 0, [], 0), (130, 2, .bipush 24, 0, 0, 0, [], 0), (132, 1, .iload_n 1, 0, 0, 0, [], 0), (133, 1, .iadd, 0, 0, 0, [], 0), (134, 1, .iaload, 0, 0, 0, [], 0), (135, 1, .ireturn, 0, 0, 0, [], 0), (136, 1, .aload_n 0, 0, 0, 0, [], 0), (137, 1, .iload_n 1, 0, 0, 0, [], 0), (138, 3, .invokevirtual 323, 215, 0, 2, [12], 0), (141, 1, .ireturn, 0, 0, 0, [], 0), (142, 1, .aload_n 0, 0, 0, 0, [], 0), (143, 3, .getfield 31, 12, 14, 0, [], 0), (146, 1, .iload_n 1, 0, 0, 0, [], 0), (147, 1, .aaload, 0, 0, 0, [], 0), (148, 1, .iload_n 2, 0, 0, 0, [], 0), (149, 1, .iaload, 0, 0, 0, [], 0), (150, 1, .ireturn, 0, 0, 0, [], 0)]
def mt_216 : ix_M := (⟨"CryGorgeModel", "bay", "(II)I"⟩, prog_14_method_66_code, 5, (Option.some FieldType.int), 3, 12, mo_216, [])
def mo_217 : List ix_Op := [(0, 1, .aload_n 0, 0, 0, 0, [], 0), (1, 1, .iconst 0, 0, 0, 0, [], 0), (2, 3, .putfield 103, 12, 0, 0, [], 0), (5, 1, .aload_n 0, 0, 0, 0, [], 0), (6, 1, .aload_n 0, 0, 0, 0, [], 0), (7, 1, .iload_n 1, 0, 0, 0, [], 0), (8, 3, .invokevirtual 326, 213, 0, 2, [12], 0), (11, 3, .ifCond .ne 7, 10, 0, 0, [], 0), (14, 1, .iconst 1, 0, 0, 0, [], 0), (15, 3, .goto 4, 11, 0, 0, [], 0), (18, 1, .iconst 0, 0, 0, 0, [], 0), (19, 1, .iconst 1, 0, 0, 0, [], 0), (20, 1, .iconst 0, 0, 0, 0, [], 0), (21, 3, .invokevirtual 176, 154, 0, 4, [12], 0), (24, 3, .ifCond .ne 26, 28, 0, 0, [], 0), (27, 1, .aload_n 0, 0, 0, 0, [], 0), (28, 1, .iload_n 2, 0, 0, 0, [], 0), (29, 1, .iconst 0, 0, 0, 0, [], 0), (30, 1, .iconst 5, 0, 0, 0, [], 0), (31, 3, .invokestatic 137, 155, 1, 3, [], 0), (34, 3, .ifCond .ne 7, 23, 0, 0, [], 0), (37, 1, .iconst 1, 0, 0, 0, [], 0), (38, 3, .goto 4, 24, 0, 0, [], 0), (41, 1, .iconst 0, 0, 0, 0, [], 0), (42, 1, .iconst 2, 0, 0, 0, [], 0), (43, 1, .iconst 1, 0, 0, 0, [], 0), (44, 3, .invokevirtual 176, 154, 0, 4, [12], 0), (47, 3, .ifCond .eq 5, 30, 0, 0, [], 0), (50, 1, .iconst 0, 0, 0, 0, [], 0), (51, 1, .ireturn, 0, 0, 0, [], 0), (52, 1, .iload_n 2, 0, 0, 0, [], 0), (53, 35, .tableswitch 83 0 4 #[35, 44, 54, 64, 73], 66, 0, 0, [32, 39, 46, 53, 60], 0), (88, 1, .aload_n 0, 0, 0, 0, [], 0), (89, 3, .getfield 37, 12, 16, 0, [], 0), (92, 1, .iload_n 1, 0, 0, 0, [], 0), (93, 1, .aaload, 0, 0, 0, [], 0), (94, 1, .iconst 0, 0, 0, 0, [], 0), (95, 1, .iaload, 0, 0, 0, [], 0), (96, 1, .ireturn, 0, 0, 0, [], 0), (97, 1, .aload_n 0, 0, 0, 0, [], 0), (98, 3, .getfield 70, 12, 30, 0, [], 0), (101, 2, .bipush 8, 0, 0, 0, [], 0), (103, 1, .iload_n 1, 0, 0, 0, [], 0), (104, 1, .iadd, 0, 0, 0, [], 0), (105, 1, .iaload, 0, 0, 0, [], 0), (106, 1, .ireturn, 0, 0, 0, [], 0), (107, 1, .aload_n 0, 0, 0, 0, [], 0), (108, 3, .getfield 70, 12, 30, 0, [], 0), (111, 2, .bipush 16, 0, 0, 0, [], 0), (113, 1, .iload_n 1, 0, 0, 0, [], 0), (114, 1, .iadd, 0, 0, 0, [], 0), (115, 1, .iaload, 0, 0, 0, [], 0), (116, 1, .ireturn, 0, 0, 0, [], 0), (117, 1, .aload_n 0, 0, 0, 0, [], 0), (118, 3, .getfield 70, 12, 30, 0, [], 0), (121, 1, .iconst 0, 0, 0, 0, [], 0), (122, 1, .iload_n 1, 0, 0, 0, [], 0), (123, 1, .iadd, 0, 0, 0, [], 0), (124, 1, .iaload, 0, 0, 0, [], 0), (125, 1, .ireturn, 0, 0, 0, [], 0), (126, 1, .aload_n 0, 0, 0, 0, [], 0), (127, 1, .aload_n 0, 0, 0, 0, [], 0), (128, 3, .getfield 70, 12, 30, 0, [], 0), (131, 1, .iload_n 1, 0, 0, 0, [], 0), (132, 3, .invokevirtual 276, 200, 0, 3, [12], 0), (135, 1, .ireturn, 0, 0, 0, [], 0), (136, 1, .aload_n 0, 0, 0, 0, [], 0), (137, 3, .getfield 37, 12, 16, 0, [], 0), (140, 1, .iload_n 1, 0, 0, 0, [], 0), (141, 1, .aaload, 0, 0, 0, [], 0), (142, 1, .iconst 1, 0, 0, 0, [], 0), (143, 1, .iaload, 0, 0, 0, [], 0), (144, 1, .ireturn, 0, 0, 0, [], 0)]
def mt_217 : ix_M := (⟨"CryGorgeModel", "cry", "(II)I"⟩, prog_14_method_67_code, 3, (Option.some FieldType.int), 3, 12, mo_217, [])
def mo_218 : List ix_Op := [(0, 1, .aload_n 0, 0, 0, 0, [], 0), (1, 1, .iconst 0, 0, 0, 0, [], 0), (2, 3, .putfield 103, 12, 0, 0, [], 0), (5, 1, .aload_n 0, 0, 0, 0, [], 0), (6, 1, .iload_n 1, 0, 0, 0, [], 0), (7, 1, .iconst 0, 0, 0, 0, [], 0), (8, 2, .bipush 20, 0, 0, 0, [], 0), (10, 3, .invokestatic 137, 155, 1, 3, [], 0), (13, 3, .ifCond .eq 77, 44, 0, 0, [], 0), (16, 1, .iload_n 2, 0, 0, 0, [], 0), (17, 1, .iconst 0, 0, 0, 0, [], 0), (18, 1, .iconst 3, 0, 0, 0, [], 0), (19, 3, .invokestatic 137, 155, 1, 3, [], 0), (22, 3, .ifCond .eq 68, 44, 0, 0, [], 0), (25, 1, .iload_n 3, 0, 0, 0, [], 0), (26, 1, .iconst 0, 0, 0, 0, [], 0), (27, 1, .iconst 1, 0, 0, 0, [], 0), (28, 3, .invokestatic 137, 155, 1, 3, [], 0), (31, 3, .ifCond .eq 59, 44, 0, 0, [], 0), (34, 2, .iload 4, 0, 0, 0, [], 0), (36, 1, .iconst 0, 0, 0, 0, [], 0), (37, 2, .bipush 99, 0, 0, 0, [], 0), (39, 3, .invokestatic 137, 155, 1, 3, [], 0), (42, 3, .ifCond .eq 48, 44, 0, 0, [], 0), (45, 2, .iload 5, 0, 0, 0, [], 0), (47, 1, .iconst 0, 0, 0, 0, [], 0), (48, 2, .bipush 60, 0, 0, 0, [], 0), (50, 3, .invokestatic 137, 155, 1, 3, [], 0), (53, 3, .ifCond .eq 37, 44, 0, 0, [], 0), (56, 2, .iload 6, 0, 0, 0, [], 0), (58, 1, .iconst 0, 0, 0, 0, [], 0), (59, 3, .sipush 400, 0, 0, 0, [], 0), (62, 3, .invokestatic 137, 155, 1, 3, [], 0), (65, 3, .ifCond .eq 25, 44, 0, 0, [], 0), (68, 2, .iload 7, 0, 0, 0, [], 0), (70, 1, .iconst 0, 0, 0, 0, [], 0), (71, 1, .iconst 5, 0, 0, 0, [], 0), (72, 3, .invokestatic 137, 155, 1, 3, [], 0), (75, 3, .ifCond .eq 15, 44, 0, 0, [], 0), (78, 2, .iload 8, 0, 0, 0, [], 0), (80, 1, .iconst 0, 0, 0, 0, [], 0), (81, 3, .sipush 300, 0, 0, 0, [], 0), (84, 3, .invokestatic 137, 155, 1, 3, [], 0), (87, 3, .ifCond .ne 7, 46, 0, 0, [], 0), (90, 1, .iconst 1, 0, 0, 0, [], 0), (91, 3, .goto 4, 47, 0, 0, [], 0), (94, 1, .iconst 0, 0, 0, 0, [], 0), (95, 1, .iconst 1, 0, 0, 0, [], 0), (96, 1, .iconst 1, 0, 0, 0, [], 0), (97, 3, .invokevirtual 176, 154, 0, 4, [12], 0), (100, 3, .ifCond .eq 5, 53, 0, 0, [], 0), (103, 1, .iconst 0, 0, 0, 0, [], 0), (104, 1, .ireturn, 0, 0, 0, [], 0), (105, 1, .aload_n 0, 0, 0, 0, [], 0), (106, 1, .iload_n 1, 0, 0, 0, [], 0), (107, 1, .iload_n 2, 0, 0, 0, [], 0), (108, 1, .iload_n 3, 0, 0, 0, [], 0), (109, 2, .iload 4, 0, 0, 0, [], 0), (111, 2, .iload 5, 0, 0, 0, [], 0), (113, 2, .iload 6, 0, 0, 0, [], 0), (115, 2, .iload 7, 0, 0, 0, [], 0), (117, 2, .iload 8, 0, 0, 0, [], 0), (119, 3, .invokevirtual 264, 198, 0, 9, [12], 0), (122, 1, .ireturn, 0, 0, 0, [], 0)]
def mt_218 : ix_M := (⟨"CryGorgeModel", "would", "(IIIIIIII)I"⟩, prog_14_method_68_code, 9, (Option.some FieldType.int), 9, 12, mo_218, [])
def mo_219 : List ix_Op := [(0, 1, .aload_n 0, 0, 0, 0, [], 0), (1, 1, .iconst 0, 0, 0, 0, [], 0), (2, 3, .putfield 103, 12, 0, 0, [], 0), (5, 1, .aload_n 0, 0, 0, 0, [], 0), (6, 1, .iload_n 1, 0, 0, 0, [], 0), (7, 1, .iconst 0, 0, 0, 0, [], 0), (8, 2, .bipush 99, 0, 0, 0, [], 0), (10, 3, .invokestatic 137, 155, 1, 3, [], 0), (13, 3, .ifCond .eq 12, 14, 0, 0, [], 0), (16, 1, .iload_n 2, 0, 0, 0, [], 0), (17, 1, .iconst 0, 0, 0, 0, [], 0), (18, 1, .iconst 1, 0, 0, 0, [], 0), (19, 3, .invokestatic 137, 155, 1, 3, [], 0), (22, 3, .ifCond .ne 7, 16, 0, 0, [], 0), (25, 1, .iconst 1, 0, 0, 0, [], 0), (26, 3, .goto 4, 17, 0, 0, [], 0), (29, 1, .iconst 0, 0, 0, 0, [], 0), (30, 1, .iconst 1, 0, 0, 0, [], 0), (31, 1, .iconst 1, 0, 0, 0, [], 0), (32, 3, .invokevirtual 176, 154, 0, 4, [12], 0), (35, 3, .ifCond .eq 5, 23, 0, 0, [], 0), (38, 1, .iconst 0, 0, 0, 0, [], 0), (39, 1, .ireturn, 0, 0, 0, [], 0), (40, 1, .aload_n 0, 0, 0, 0, [], 0), (41, 3, .getfield 70, 12, 30, 0, [], 0), (44, 1, .aload_n 0, 0, 0, 0, [], 0), (45, 3, .getfield 73, 12, 31, 0, [], 0), (48, 3, .invokestatic 309, 179, 1, 2, [], 0), (51, 1, .iconst 0, 0, 0, 0, [], 0), (52, 1, .istore_n 3, 0, 0, 0, [], 0), (53, 1, .iload_n 3, 0, 0, 0, [], 0), (54, 1, .iload_n 1, 0, 0, 0, [], 0), (55, 3, .if_icmp .ge 17, 39, 0, 0, [], 0), (58, 1, .aload_n 0, 0, 0, 0, [], 0), (59, 1, .aload_n 0, 0, 0, 0, [], 0), (60, 3, .getfield 73, 12, 31, 0, [], 0), (63, 3, .invokevirtual 292, 201, 0, 2, [12], 0), (66, 3, .iinc 3 1, 0, 0, 0, [], 0), (69, 3, .goto (-16), 30, 0, 0, [], 0), (72, 1, .iload_n 2, 0, 0, 0, [], 0), (73, 3, .ifCond .ne 14, 46, 0, 0, [], 0), (76, 1, .aload_n 0, 0, 0, 0, [], 0), (77, 1, .aload_n 0, 0, 0, 0, [], 0), (78, 3, .getfield 73, 12, 31, 0, [], 0), (81, 3, .invokevirtual 317, 209, 0, 2, [12], 0), (84, 3, .goto 11, 50, 0, 0, [], 0), (87, 1, .aload_n 0, 0, 0, 0, [], 0), (88, 1, .aload_n 0, 0, 0, 0, [], 0), (89, 3, .getfield 73, 12, 31, 0, [], 0), (92, 3, .invokevirtual 313, 210, 0, 2, [12], 0), (95, 1, .ireturn, 0, 0, 0, [], 0)]
def mt_219 : ix_M := (⟨"CryGorgeModel", "ahead", "(II)I"⟩, prog_14_method_69_code, 4, (Option.some FieldType.int), 3, 12, mo_219, [])
def mo_220 : List ix_Op := [(0, 1, .aload_n 0, 0, 0, 0, [], 0), (1, 1, .iconst 0, 0, 0, 0, [], 0), (2, 3, .putfield 103, 12, 0, 0, [], 0), (5, 1, .aload_n 0, 0, 0, 0, [], 0), (6, 1, .aload_n 0, 0, 0, 0, [], 0), (7, 1, .iload_n 1, 0, 0, 0, [], 0), (8, 3, .invokevirtual 326, 213, 0, 2, [12], 0), (11, 3, .ifCond .ne 7, 10, 0, 0, [], 0), (14, 1, .iconst 1, 0, 0, 0, [], 0), (15, 3, .goto 4, 11, 0, 0, [], 0), (18, 1, .iconst 0, 0, 0, 0, [], 0), (19, 1, .iconst 1, 0, 0, 0, [], 0), (20, 1, .iconst 0, 0, 0, 0, [], 0), (21, 3, .invokevirtual 176, 154, 0, 4, [12], 0), (24, 3, .ifCond .eq 5, 17, 0, 0, [], 0), (27, 1, .iconst 0, 0, 0, 0, [], 0), (28, 1, .ireturn, 0, 0, 0, [], 0), (29, 1, .aload_n 0, 0, 0, 0, [], 0), (30, 3, .getfield 70, 12, 30, 0, [], 0), (33, 1, .aload_n 0, 0, 0, 0, [], 0), (34, 3, .getfield 73, 12, 31, 0, [], 0), (37, 3, .invokestatic 309, 179, 1, 2, [], 0), (40, 1, .iconst 0, 0, 0, 0, [], 0), (41, 1, .istore_n 2, 0, 0, 0, [], 0), (42, 1, .iload_n 2, 0, 0, 0, [], 0), (43, 2, .bipush 60, 0, 0, 0, [], 0), (45, 3, .if_icmp .gt 31, 42, 0, 0, [], 0), (48, 1, .aload_n 0, 0, 0, 0, [], 0), (49, 3, .getfield 73, 12, 31, 0, [], 0), (52, 2, .bipush 8, 0, 0, 0, [], 0), (54, 1, .iload_n 1, 0, 0, 0, [], 0), (55, 1, .iadd, 0, 0, 0, [], 0), (56, 1, .iaload, 0, 0, 0, [], 0), (57, 3, .ifCond .ne 5, 36, 0, 0, [], 0), (60, 1, .iload_n 2, 0, 0, 0, [], 0), (61, 1, .ireturn, 0, 0, 0, [], 0), (62, 1, .aload_n 0, 0, 0, 0, [], 0), (63, 1, .aload_n 0, 0, 0, 0, [], 0), (64, 3, .getfield 73, 12, 31, 0, [], 0), (67, 3, .invokevirtual 292, 201, 0, 2, [12], 0), (70, 3, .iinc 2 1, 0, 0, 0, [], 0), (73, 3, .goto (-31), 24, 0, 0, [], 0), (76, 1, .iconst (-1), 0, 0, 0, [], 0), (77, 1, .ireturn, 0, 0, 0, [], 0)]
def mt_220 : ix_M := (⟨"CryGorgeModel", "lasts", "(I)I"⟩, prog_14_method_70_code, 3, (Option.some FieldType.int), 2, 12, mo_220, [])
def mo_221 : List ix_Op := [(0, 1, .aload_n 0, 0, 0, 0, [], 0), (1, 1, .iconst 0, 0, 0, 0, [], 0), (2, 3, .putfield 103, 12, 0, 0, [], 0), (5, 1, .aload_n 0, 0, 0, 0, [], 0), (6, 1, .aload_n 0, 0, 0, 0, [], 0), (7, 1, .iload_n 1, 0, 0, 0, [], 0), (8, 3, .invokevirtual 326, 213, 0, 2, [12], 0), (11, 3, .ifCond .ne 7, 10, 0, 0, [], 0), (14, 1, .iconst 1, 0, 0, 0, [], 0), (15, 3, .goto 4, 11, 0, 0, [], 0), (18, 1, .iconst 0, 0, 0, 0, [], 0), (19, 1, .iconst 1, 0, 0, 0, [], 0), (20, 1, .iconst 0, 0, 0, 0, [], 0), (21, 3, .invokevirtual 176, 154, 0, 4, [12], 0), (24, 3, .ifCond .eq 5, 17, 0, 0, [], 0), (27, 1, .iconst 0, 0, 0, 0, [], 0), (28, 1, .ireturn, 0, 0, 0, [], 0), (29, 1, .aload_n 0, 0, 0, 0, [], 0), (30, 3, .getfield 70, 12, 30, 0, [], 0), (33, 1, .aload_n 0, 0, 0, 0, [], 0), (34, 3, .getfield 73, 12, 31, 0, [], 0), (37, 3, .invokestatic 309, 179, 1, 2, [], 0), (40, 1, .aload_n 0, 0, 0, 0, [], 0), (41, 3, .getfield 73, 12, 31, 0, [], 0), (44, 1, .iconst 0, 0, 0, 0, [], 0), (45, 1, .iload_n 1, 0, 0, 0, [], 0), (46, 1, .iadd, 0, 0, 0, [], 0), (47, 1, .iaload, 0, 0, 0, [], 0), (48, 2, .bipush (-2), 0, 0, 0, [], 0), (50, 3, .if_icmp .eq 32, 46, 0, 0, [], 0), (53, 1, .aload_n 0, 0, 0, 0, [], 0), (54, 3, .getfield 73, 12, 31, 0, [], 0), (57, 2, .bipush 16, 0, 0, 0, [], 0), (59, 1, .iload_n 1, 0, 0, 0, [], 0), (60, 1, .iadd, 0, 0, 0, [], 0), (61, 1, .iaload, 0, 0, 0, [], 0), (62, 1, .aload_n 0, 0, 0, 0, [], 0), (63, 3, .getfield 23, 12, 12, 0, [], 0), (66, 1, .iconst 2, 0, 0, 0, [], 0), (67, 1, .iaload, 0, 0, 0, [], 0), (68, 3, .if_icmp .ge 14, 46, 0, 0, [], 0), (71, 1, .aload_n 0, 0, 0, 0, [], 0), (72, 1, .aload_n 0, 0, 0, 0, [], 0), (73, 3, .getfield 73, 12, 31, 0, [], 0), (76, 3, .invokevirtual 292, 201, 0, 2, [12], 0), (79, 3, .goto (-39), 22, 0, 0, [], 0), (82, 1, .aload_n 0, 0, 0, 0, [], 0), (83, 3, .getfield 73, 12, 31, 0, [], 0), (86, 2, .bipush 8, 0, 0, 0, [], 0), (88, 1, .iload_n 1, 0, 0, 0, [], 0), (89, 1, .iadd, 0, 0, 0, [], 0), (90, 1, .iaload, 0, 0, 0, [], 0), (91, 1, .ireturn, 0, 0, 0, [], 0)]
def mt_221 : ix_M := (⟨"CryGorgeModel", "ripe", "(I)I"⟩, prog_14_method_71_code, 2, (Option.some FieldType.int), 2, 12, mo_221, [])
def mo_222 : List ix_Op := [(0, 1, .iload_n 2, 0, 0, 0, [], 0), (1, 1, .aload_n 0, 0, 0, 0, [], 0), (2, 3, .getfield 23, 12, 12, 0, [], 0), (5, 1, .iconst 1, 0, 0, 0, [], 0), (6, 1, .iaload, 0, 0, 0, [], 0), (7, 3, .if_icmp .ne 156, 92, 0, 0, [], 0), (10, 1, .iconst 0, 0, 0, 0, [], 0), (11, 1, .istore_n 3, 0, 0, 0, [], 0), (12, 1, .iconst 0, 0, 0, 0, [], 0), (13, 2, .istore 4, 0, 0, 0, [], 0), (15, 2, .iload 4, 0, 0, 0, [], 0), (17, 1, .aload_n 0, 0, 0, 0, [], 0), (18, 3, .getfield 23, 12, 12, 0, [], 0), (21, 1, .iconst 1, 0, 0, 0, [], 0), (22, 1, .iaload, 0, 0, 0, [], 0), (23, 3, .if_icmp .ge 81, 59, 0, 0, [], 0), (26, 1, .iload_n 3, 0, 0, 0, [], 0), (27, 1, .iload_n 1, 0, 0, 0, [], 0), (28, 2, .iload 4, 0, 0, 0, [], 0), (30, 3, .invokestatic 329, 158, 1, 2, [], 0), (33, 3, .ifCond .eq 62, 54, 0, 0, [], 0), (36, 1, .aload_n 0, 0, 0, 0, [], 0), (37, 1, .aload_n 0, 0, 0, 0, [], 0), (38, 3, .getfield 70, 12, 30, 0, [], 0), (41, 2, .iload 4, 0, 0, 0, [], 0), (43, 1, .aload_n 0, 0, 0, 0, [], 0), (44, 3, .getfield 73, 12, 31, 0, [], 0), (47, 1, .iconst 0, 0, 0, 0, [], 0), (48, 2, .iload 4, 0, 0, 0, [], 0), (50, 1, .iadd, 0, 0, 0, [], 0), (51, 1, .iaload, 0, 0, 0, [], 0), (52, 1, .aload_n 0, 0, 0, 0, [], 0), (53, 1, .aload_n 0, 0, 0, 0, [], 0), (54, 3, .getfield 73, 12, 31, 0, [], 0), (57, 2, .iload 4, 0, 0, 0, [], 0), (59, 3, .invokevirtual 268, 196, 0, 3, [12], 0), (62, 1, .aload_n 0, 0, 0, 0, [], 0), (63, 3, .getfield 70, 12, 30, 0, [], 0), (66, 2, .bipush 8, 0, 0, 0, [], 0), (68, 2, .iload 4, 0, 0, 0, [], 0), (70, 1, .iadd, 0, 0, 0, [], 0), (71, 1, .iaload, 0, 0, 0, [], 0), (72, 1, .aload_n 0, 0, 0, 0, [], 0), (73, 3, .getfield 70, 12, 30, 0, [], 0), (76, 2, .bipush 16, 0, 0, 0, [], 0), (78, 2, .iload 4, 0, 0, 0, [], 0), (80, 1, .iadd, 0, 0, 0, [], 0), (81, 1, .iaload, 0, 0, 0, [], 0), (82, 1, .aload_n 0, 0, 0, 0, [], 0), (83, 3, .getfield 70, 12, 30, 0, [], 0), (86, 2, .bipush 31, 0, 0, 0, [], 0), (88, 1, .iaload, 0, 0, 0, [], 0), (89, 3, .invokevirtual 272, 199, 0, 8, [12], 0), (92, 3, .goto 4, 55, 0, 0, [], 0), (95, 1, .iconst 0, 0, 0, 0, [], 0), (96, 1, .iadd, 0, 0, 0, [], 0), (97, 1, .istore_n 3, 0, 0, 0, [], 0), (98, 3, .iinc 4 1, 0, 0, 0, [], 0), (101, 3, .goto (-86), 10, 0, 0, [], 0), (104, 1, .aload_n 0, 0, 0, 0, [], 0), (105, 3, .getfield 333, 12, 43, 0, [], 0), (108, 1, .iconst (-1), 0, 0, 0, [], 0), (109, 3, .if_icmp .eq 12, 68, 0, 0, [], 0), (112, 1, .iload_n 3, 0, 0, 0, [], 0), (113, 1, .aload_n 0, 0, 0, 0, [], 0), (114, 3, .getfield 333, 12, 43, 0, [], 0), (117, 3, .if_icmp .lt 4, 68, 0, 0, [], 0), (120, 1, .return_, 0, 0, 0, [], 0), (121, 1, .aload_n 0, 0, 0, 0, [], 0), (122, 1, .iload_n 3, 0, 0, 0, [], 0), (123, 3, .putfield 333, 12, 43, 0, [], 0), (126, 1, .iconst 0, 0, 0, 0, [], 0), (127, 2, .istore 4, 0, 0, 0, [], 0), (129, 2, .iload 4, 0, 0, 0, [], 0), (131, 1, .aload_n 0, 0, 0, 0, [], 0), (132, 3, .getfield 23, 12, 12, 0, [], 0), (135, 1, .iconst 1, 0, 0, 0, [], 0), (136, 1, .iaload, 0, 0, 0, [], 0), (137, 3, .if_icmp .ge 25, 91, 0, 0, [], 0), (140, 1, .aload_n 0, 0, 0, 0, [], 0), (141, 3, .getfield 85, 12, 42, 0, [], 0), (144, 2, .iload 4, 0, 0, 0, [], 0), (146, 1, .aload_n 0, 0, 0, 0, [], 0), (147, 3, .getfield 73, 12, 31, 0, [], 0), (150, 1, .iconst 0, 0, 0, 0, [], 0), (151, 2, .iload 4, 0, 0, 0, [], 0), (153, 1, .iadd, 0, 0, 0, [], 0), (154, 1, .iaload, 0, 0, 0, [], 0), (155, 1, .iastore, 0, 0, 0, [], 0), (156, 3, .iinc 4 1, 0, 0, 0, [], 0), (159, 3, .goto (-30), 73, 0, 0, [], 0), (162, 1, .return_, 0, 0, 0, [], 0), (163, 1, .aload_n 0, 0, 0, 0, [], 0), (164, 3, .getfield 73, 12, 31, 0, [], 0), (167, 1, .iconst 0, 0, 0, 0, [], 0), (168, 1, .iload_n 2, 0, 0, 0, [], 0), (169, 1, .iadd, 0, 0, 0, [], 0), (170, 1, .iconst (-1), 0, 0, 0, [], 0), (171, 1, .iastore, 0, 0, 0, [], 0), (172, 1, .iload_n 1, 0, 0, 0, [], 0), (173, 1, .iload_n 2, 0, 0, 0, [], 0), (174, 3, .invokestatic 329, 158, 1, 2, [], 0), (177, 3, .ifCond .ne 12, 110, 0, 0, [], 0), (180, 1, .aload_n 0, 0, 0, 0, [], 0), (181, 1, .iload_n 1, 0, 0, 0, [], 0), (182, 1, .iload_n 2, 0, 0, 0, [], 0), (183, 1, .iconst 1, 0, 0, 0, [], 0), (184, 1, .iadd, 0, 0, 0, [], 0), (185, 3, .invokevirtual 336, 222, 0, 3, [12], 0), (188, 1, .return_, 0, 0, 0, [], 0), (189, 1, .iconst 0, 0, 0, 0, [], 0), (190, 1, .istore_n 3, 0, 0, 0, [], 0), (191, 1, .iload_n 3, 0, 0, 0, [], 0), (192, 1, .aload_n 0, 0, 0, 0, [], 0), (193, 3, .getfield 23, 12, 12, 0, [], 0), (196, 1, .iconst 0, 0, 0, 0, [], 0), (197, 1, .iaload, 0, 0, 0, [], 0), (198, 3, .if_icmp .ge 58, 153, 0, 0, [], 0), (201, 1, .aload_n 0, 0, 0, 0, [], 0), (202, 3, .getfield 73, 12, 31, 0, [], 0), (205, 1, .iconst 0, 0, 0, 0, [], 0), (206, 1, .iload_n 2, 0, 0, 0, [], 0), (207, 1, .iadd, 0, 0, 0, [], 0), (208, 1, .iconst (-1), 0, 0, 0, [], 0), (209, 1, .iastore, 0, 0, 0, [], 0), (210, 1, .aload_n 0, 0, 0, 0, [], 0), (211, 1, .aload_n 0, 0, 0, 0, [], 0), (212, 3, .getfield 73, 12, 31, 0, [], 0), (215, 1, .iload_n 3, 0, 0, 0, [], 0), (216, 3, .invokevirtual 279, 197, 0, 3, [12], 0), (219, 1, .aload_n 0, 0, 0, 0, [], 0), (220, 3, .getfield 31, 12, 14, 0, [], 0), (223, 1, .iload_n 3, 0, 0, 0, [], 0), (224, 1, .aaload, 0, 0, 0, [], 0), (225, 1, .iconst 1, 0, 0, 0, [], 0), (226, 1, .iaload, 0, 0, 0, [], 0), (227, 3, .if_icmp .ne 6, 138, 0, 0, [], 0), (230, 3, .goto 20, 151, 0, 0, [], 0), (233, 1, .aload_n 0, 0, 0, 0, [], 0), (234, 3, .getfield 73, 12, 31, 0, [], 0), (237, 1, .iconst 0, 0, 0, 0, [], 0), (238, 1, .iload_n 2, 0, 0, 0, [], 0), (239, 1, .iadd, 0, 0, 0, [], 0), (240, 1, .iload_n 3, 0, 0, 0, [], 0), (241, 1, .iastore, 0, 0, 0, [], 0), (242, 1, .aload_n 0, 0, 0, 0, [], 0), (243, 1, .iload_n 1, 0, 0, 0, [], 0), (244, 1, .iload_n 2, 0, 0, 0, [], 0), (245, 1, .iconst 1, 0, 0, 0, [], 0), (246, 1, .iadd, 0, 0, 0, [], 0), (247, 3, .invokevirtual 336, 222, 0, 3, [12], 0), (250, 3, .iinc 3 1, 0, 0, 0, [], 0), (253, 3, .goto (-62), 112, 0, 0, [], 0), (256, 1, .aload_n 0, 0, 0, 0, [], 0), (257, 3, .getfield 73, 12, 31, 0, [], 0), (260, 1, .iconst 0, 0, 0, 0, [], 0), (261, 1, .iload_n 2, 0, 0, 0, [], 0), (262, 1, .iadd, 0, 0, 0, [], 0), (263, 1, .iconst (-1), 0, 0, 0, [], 0), (264, 1, .iastore, 0, 0, 0, [], 0), (265, 1, .return_, 0, 0, 0, [], 0)]
def mt_222 : ix_M := (⟨"CryGorgeModel", "keepsFrom", "(II)V"⟩, prog_14_method_72_code, 5, (Option.none : Option FieldType), 3, 12, mo_222, [])
def mo_223 : List ix_Op := [(0, 1, .aload_n 0, 0, 0, 0, [], 0), (1, 1, .iconst (-1), 0, 0, 0, [], 0), (2, 3, .putfield 333, 12, 43, 0, [], 0), (5, 1, .iconst 0, 0, 0, 0, [], 0), (6, 1, .istore_n 2, 0, 0, 0, [], 0), (7, 1, .iload_n 2, 0, 0, 0, [], 0), (8, 2, .bipush 8, 0, 0, 0, [], 0), (10, 3, .if_icmp .ge 25, 22, 0, 0, [], 0), (13, 1, .aload_n 0, 0, 0, 0, [], 0), (14, 3, .getfield 73, 12, 31, 0, [], 0), (17, 1, .iconst 0, 0, 0, 0, [], 0), (18, 1, .iload_n 2, 0, 0, 0, [], 0), (19, 1, .iadd, 0, 0, 0, [], 0), (20, 1, .iconst (-1), 0, 0, 0, [], 0), (21, 1, .iastore, 0, 0, 0, [], 0), (22, 1, .aload_n 0, 0, 0, 0, [], 0), (23, 3, .getfield 85, 12, 42, 0, [], 0), (26, 1, .iload_n 2, 0, 0, 0, [], 0), (27, 1, .iconst (-1), 0, 0, 0, [], 0), (28, 1, .iastore, 0, 0, 0, [], 0), (29, 3, .iinc 2 1, 0, 0, 0, [], 0), (32, 3, .goto (-25), 5, 0, 0, [], 0), (35, 1, .aload_n 0, 0, 0, 0, [], 0), (36, 1, .iload_n 1, 0, 0, 0, [], 0), (37, 1, .iconst 0, 0, 0, 0, [], 0), (38, 3, .invokevirtual 336, 222, 0, 3, [12], 0), (41, 1, .return_, 0, 0, 0, [], 0)]
def mt_223 : ix_M := (⟨"CryGorgeModel", "plans", "(I)V"⟩, prog_14_method_73_code, 3, (Option.none : Option FieldType), 2, 12, mo_223, [])
def mo_224 : List ix_Op := [(0, 1, .iconst 0, 0, 0, 0, [], 0), (1, 1, .istore_n 1, 0, 0, 0, [], 0), (2, 1, .iconst 0, 0, 0, 0, [], 0), (3, 1, .istore_n 2, 0, 0, 0, [], 0), (4, 1, .iload_n 2, 0, 0, 0, [], 0), (5, 2, .bipush 8, 0, 0, 0, [], 0), (7, 3, .if_icmp .ge 17, 17, 0, 0, [], 0), (10, 1, .iload_n 1, 0, 0, 0, [], 0), (11, 1, .iload_n 0, 0, 0, 0, [], 0), (12, 1, .iload_n 2, 0, 0, 0, [], 0), (13, 1, .ishr, 0, 0, 0, [], 0), (14, 1, .iconst 1, 0, 0, 0, [], 0), (15, 1, .iand, 0, 0, 0, [], 0), (16, 1, .iadd, 0, 0, 0, [], 0), (17, 1, .istore_n 1, 0, 0, 0, [], 0), (18, 3, .iinc 2 1, 0, 0, 0, [], 0), (21, 3, .goto (-17), 4, 0, 0, [], 0), (24, 1, .iload_n 1, 0, 0, 0, [], 0), (25, 1, .ireturn, 0, 0, 0, [], 0)]
def mt_224 : ix_M := (⟨"CryGorgeModel", "ones", "(I)I"⟩, prog_14_method_74_code, 3, (Option.some FieldType.int), 1, 12, mo_224, [])
def mo_225 : List ix_Op := [(0, 1, .aload_n 0, 0, 0, 0, [], 0), (1, 1, .iconst 0, 0, 0, 0, [], 0), (2, 3, .putfield 103, 12, 0, 0, [], 0), (5, 1, .aload_n 0, 0, 0, 0, [], 0), (6, 1, .aload_n 0, 0, 0, 0, [], 0), (7, 1, .iload_n 1, 0, 0, 0, [], 0), (8, 3, .invokevirtual 339, 214, 0, 2, [12], 0), (11, 3, .ifCond .eq 11, 12, 0, 0, [], 0), (14, 1, .iload_n 1, 0, 0, 0, [], 0), (15, 3, .invokestatic 342, 224, 1, 1, [], 0), (18, 1, .iconst 5, 0, 0, 0, [], 0), (19, 3, .if_icmp .le 7, 14, 0, 0, [], 0), (22, 1, .iconst 1, 0, 0, 0, [], 0), (23, 3, .goto 4, 15, 0, 0, [], 0), (26, 1, .iconst 0, 0, 0, 0, [], 0), (27, 1, .iconst 1, 0, 0, 0, [], 0), (28, 1, .iconst 1, 0, 0, 0, [], 0), (29, 3, .invokevirtual 176, 154, 0, 4, [12], 0), (32, 3, .ifCond .eq 5, 21, 0, 0, [], 0), (35, 1, .iconst 0, 0, 0, 0, [], 0), (36, 1, .ireturn, 0, 0, 0, [], 0), (37, 1, .aload_n 0, 0, 0, 0, [], 0), (38, 1, .iload_n 1, 0, 0, 0, [], 0), (39, 3, .invokevirtual 345, 223, 0, 2, [12], 0), (42, 1, .aload_n 0, 0, 0, 0, [], 0), (43, 3, .getfield 333, 12, 43, 0, [], 0), (46, 1, .ireturn, 0, 0, 0, [], 0)]
def mt_225 : ix_M := (⟨"CryGorgeModel", "plan", "(I)I"⟩, prog_14_method_75_code, 2, (Option.some FieldType.int), 2, 12, mo_225, [])
def mo_226 : List ix_Op := [(0, 1, .aload_n 0, 0, 0, 0, [], 0), (1, 1, .iconst 0, 0, 0, 0, [], 0), (2, 3, .putfield 103, 12, 0, 0, [], 0), (5, 1, .aload_n 0, 0, 0, 0, [], 0), (6, 1, .aload_n 0, 0, 0, 0, [], 0), (7, 1, .iload_n 2, 0, 0, 0, [], 0), (8, 3, .invokevirtual 326, 213, 0, 2, [12], 0), (11, 3, .ifCond .ne 7, 10, 0, 0, [], 0), (14, 1, .iconst 1, 0, 0, 0, [], 0), (15, 3, .goto 4, 11, 0, 0, [], 0), (18, 1, .iconst 0, 0, 0, 0, [], 0), (19, 1, .iconst 1, 0, 0, 0, [], 0), (20, 1, .iconst 0, 0, 0, 0, [], 0), (21, 3, .invokevirtual 176, 154, 0, 4, [12], 0), (24, 3, .ifCond .ne 33, 31, 0, 0, [], 0), (27, 1, .aload_n 0, 0, 0, 0, [], 0), (28, 1, .aload_n 0, 0, 0, 0, [], 0), (29, 1, .iload_n 1, 0, 0, 0, [], 0), (30, 3, .invokevirtual 339, 214, 0, 2, [12], 0), (33, 3, .ifCond .eq 11, 24, 0, 0, [], 0), (36, 1, .iload_n 1, 0, 0, 0, [], 0), (37, 3, .invokestatic 342, 224, 1, 1, [], 0), (40, 1, .iconst 5, 0, 0, 0, [], 0), (41, 3, .if_icmp .le 7, 26, 0, 0, [], 0), (44, 1, .iconst 1, 0, 0, 0, [], 0), (45, 3, .goto 4, 27, 0, 0, [], 0), (48, 1, .iconst 0, 0, 0, 0, [], 0), (49, 1, .iconst 2, 0, 0, 0, [], 0), (50, 1, .iconst 1, 0, 0, 0, [], 0), (51, 3, .invokevirtual 176, 154, 0, 4, [12], 0), (54, 3, .ifCond .eq 5, 33, 0, 0, [], 0), (57, 1, .iconst 0, 0, 0, 0, [], 0), (58, 1, .ireturn, 0, 0, 0, [], 0), (59, 1, .aload_n 0, 0, 0, 0, [], 0), (60, 1, .iload_n 1, 0, 0, 0, [], 0), (61, 3, .invokevirtual 345, 223, 0, 2, [12], 0), (64, 1, .aload_n 0, 0, 0, 0, [], 0), (65, 3, .getfield 85, 12, 42, 0, [], 0), (68, 1, .iload_n 2, 0, 0, 0, [], 0), (69, 1, .iaload, 0, 0, 0, [], 0), (70, 1, .ireturn, 0, 0, 0, [], 0)]
def mt_226 : ix_M := (⟨"CryGorgeModel", "planned", "(II)I"⟩, prog_14_method_76_code, 3, (Option.some FieldType.int), 3, 12, mo_226, [])
def mo_227 : List ix_Op := [(0, 1, .aload_n 0, 0, 0, 0, [], 0), (1, 3, .getfield 37, 12, 16, 0, [], 0), (4, 1, .iload_n 1, 0, 0, 0, [], 0), (5, 1, .aaload, 0, 0, 0, [], 0), (6, 1, .iconst 1, 0, 0, 0, [], 0), (7, 1, .iaload, 0, 0, 0, [], 0), (8, 2, .istore 4, 0, 0, 0, [], 0), (10, 1, .iconst 0, 0, 0, 0, [], 0), (11, 2, .istore 5, 0, 0, 0, [], 0), (13, 2, .iload 5, 0, 0, 0, [], 0), (15, 1, .iload_n 3, 0, 0, 0, [], 0), (16, 3, .if_icmp .ge 31, 27, 0, 0, [], 0), (19, 2, .iload 4, 0, 0, 0, [], 0), (21, 1, .aload_n 0, 0, 0, 0, [], 0), (22, 1, .aload_n 0, 0, 0, 0, [], 0), (23, 3, .getfield 70, 12, 30, 0, [], 0), (26, 1, .iload_n 1, 0, 0, 0, [], 0), (27, 1, .iload_n 2, 0, 0, 0, [], 0), (28, 1, .iconst 0, 0, 0, 0, [], 0), (29, 2, .iload 4, 0, 0, 0, [], 0), (31, 2, .iload 5, 0, 0, 0, [], 0), (33, 2, .iload 5, 0, 0, 0, [], 0), (35, 3, .invokevirtual 272, 199, 0, 8, [12], 0), (38, 1, .isub, 0, 0, 0, [], 0), (39, 2, .istore 4, 0, 0, 0, [], 0), (41, 3, .iinc 5 1, 0, 0, 0, [], 0), (44, 3, .goto (-31), 9, 0, 0, [], 0), (47, 2, .iload 4, 0, 0, 0, [], 0), (49, 1, .ireturn, 0, 0, 0, [], 0)]
def mt_227 : ix_M := (⟨"CryGorgeModel", "strongAt", "(III)I"⟩, prog_14_method_77_code, 6, (Option.some FieldType.int), 4, 12, mo_227, [])
def mo_228 : List ix_Op := [(0, 1, .iconst 0, 0, 0, 0, [], 0), (1, 1, .istore_n 3, 0, 0, 0, [], 0), (2, 1, .iload_n 3, 0, 0, 0, [], 0), (3, 1, .aload_n 0, 0, 0, 0, [], 0), (4, 3, .getfield 199, 12, 35, 0, [], 0), (7, 3, .if_icmp .ge 36, 27, 0, 0, [], 0), (10, 1, .aload_n 0, 0, 0, 0, [], 0), (11, 1, .iload_n 1, 0, 0, 0, [], 0), (12, 1, .iload_n 2, 0, 0, 0, [], 0), (13, 1, .aload_n 0, 0, 0, 0, [], 0), (14, 3, .getfield 55, 12, 24, 0, [], 0), (17, 1, .iload_n 3, 0, 0, 0, [], 0), (18, 1, .aaload, 0, 0, 0, [], 0), (19, 1, .iconst 0, 0, 0, 0, [], 0), (20, 1, .iaload, 0, 0, 0, [], 0), (21, 3, .invokevirtual 348, 227, 0, 4, [12], 0), (24, 1, .aload_n 0, 0, 0, 0, [], 0), (25, 3, .getfield 55, 12, 24, 0, [], 0), (28, 1, .iload_n 3, 0, 0, 0, [], 0), (29, 1, .aaload, 0, 0, 0, [], 0), (30, 1, .iconst 1, 0, 0, 0, [], 0), (31, 1, .iaload, 0, 0, 0, [], 0), (32, 3, .if_icmp .eq 5, 25, 0, 0, [], 0), (35, 1, .iconst 0, 0, 0, 0, [], 0), (36, 1, .ireturn, 1, 0, 0, [], 0), (37, 3, .iinc 3 1, 0, 0, 0, [], 0), (40, 3, .goto (-38), 2, 0, 0, [], 0), (43, 1, .iconst 1, 0, 0, 0, [], 0), (44, 1, .ireturn, 1, 0, 0, [], 0)]
def mt_228 : ix_M := (⟨"CryGorgeModel", "isHeard", "(II)Z"⟩, prog_14_method_78_code, 4, (Option.some FieldType.boolean), 3, 12, mo_228, [])
def mo_229 : List ix_Op := [(0, 1, .aload_n 0, 0, 0, 0, [], 0), (1, 1, .iconst 0, 0, 0, 0, [], 0), (2, 3, .putfield 103, 12, 0, 0, [], 0), (5, 1, .aload_n 0, 0, 0, 0, [], 0), (6, 1, .iload_n 1, 0, 0, 0, [], 0), (7, 1, .iconst 0, 0, 0, 0, [], 0), (8, 1, .iconst 1, 0, 0, 0, [], 0), (9, 3, .invokestatic 137, 155, 1, 3, [], 0), (12, 3, .ifCond .ne 7, 11, 0, 0, [], 0), (15, 1, .iconst 1, 0, 0, 0, [], 0), (16, 3, .goto 4, 12, 0, 0, [], 0), (19, 1, .iconst 0, 0, 0, 0, [], 0), (20, 1, .iconst 1, 0, 0, 0, [], 0), (21, 1, .iconst 1, 0, 0, 0, [], 0), (22, 3, .invokevirtual 176, 154, 0, 4, [12], 0), (25, 3, .ifCond .eq 5, 18, 0, 0, [], 0), (28, 1, .iconst 0, 0, 0, 0, [], 0), (29, 1, .ireturn, 0, 0, 0, [], 0), (30, 1, .iconst 0, 0, 0, 0, [], 0), (31, 1, .istore_n 2, 0, 0, 0, [], 0), (32, 1, .iconst (-1), 0, 0, 0, [], 0), (33, 1, .istore_n 3, 0, 0, 0, [], 0), (34, 1, .iconst 0, 0, 0, 0, [], 0), (35, 2, .istore 4, 0, 0, 0, [], 0), (37, 2, .iload 4, 0, 0, 0, [], 0), (39, 1, .aload_n 0, 0, 0, 0, [], 0), (40, 3, .getfield 23, 12, 12, 0, [], 0), (43, 1, .iconst 1, 0, 0, 0, [], 0), (44, 1, .iaload, 0, 0, 0, [], 0), (45, 3, .if_icmp .ge 63, 59, 0, 0, [], 0), (48, 1, .iconst 0, 0, 0, 0, [], 0), (49, 2, .istore 5, 0, 0, 0, [], 0), (51, 2, .iload 5, 0, 0, 0, [], 0), (53, 1, .aload_n 0, 0, 0, 0, [], 0), (54, 3, .getfield 23, 12, 12, 0, [], 0), (57, 1, .iconst 0, 0, 0, 0, [], 0), (58, 1, .iaload, 0, 0, 0, [], 0), (59, 3, .if_icmp .ge 43, 57, 0, 0, [], 0), (62, 1, .aload_n 0, 0, 0, 0, [], 0), (63, 2, .iload 4, 0, 0, 0, [], 0), (65, 2, .iload 5, 0, 0, 0, [], 0), (67, 3, .invokevirtual 351, 228, 0, 3, [12], 0), (70, 3, .ifCond .ne 6, 44, 0, 0, [], 0), (73, 3, .goto 23, 55, 0, 0, [], 0), (76, 1, .iload_n 2, 0, 0, 0, [], 0), (77, 3, .ifCond .ne 14, 52, 0, 0, [], 0), (80, 2, .bipush 10, 0, 0, 0, [], 0), (82, 2, .iload 4, 0, 0, 0, [], 0), (84, 1, .imul, 0, 0, 0, [], 0), (85, 2, .iload 5, 0, 0, 0, [], 0), (87, 1, .iadd, 0, 0, 0, [], 0), (88, 3, .goto 4, 53, 0, 0, [], 0), (91, 1, .iload_n 3, 0, 0, 0, [], 0), (92, 1, .istore_n 3, 0, 0, 0, [], 0), (93, 3, .iinc 2 1, 0, 0, 0, [], 0), (96, 3, .iinc 5 1, 0, 0, 0, [], 0), (99, 3, .goto (-48), 32, 0, 0, [], 0), (102, 3, .iinc 4 1, 0, 0, 0, [], 0), (105, 3, .goto (-68), 24, 0, 0, [], 0), (108, 1, .iload_n 1, 0, 0, 0, [], 0), (109, 3, .ifCond .ne 7, 63, 0, 0, [], 0), (112, 1, .iload_n 2, 0, 0, 0, [], 0), (113, 3, .goto 4, 64, 0, 0, [], 0), (116, 1, .iload_n 3, 0, 0, 0, [], 0), (117, 1, .ireturn, 0, 0, 0, [], 0)]
def mt_229 : ix_M := (⟨"CryGorgeModel", "whose", "(I)I"⟩, prog_14_method_79_code, 6, (Option.some FieldType.int), 2, 12, mo_229, [])
def mo_230 : List ix_Op := [(0, 1, .iconst 0, 0, 0, 0, [], 0), (1, 1, .istore_n 2, 0, 0, 0, [], 0), (2, 1, .iload_n 2, 0, 0, 0, [], 0), (3, 1, .aload_n 0, 0, 0, 0, [], 0), (4, 3, .getfield 199, 12, 35, 0, [], 0), (7, 3, .if_icmp .ge 23, 18, 0, 0, [], 0), (10, 1, .aload_n 0, 0, 0, 0, [], 0), (11, 3, .getfield 55, 12, 24, 0, [], 0), (14, 1, .iload_n 2, 0, 0, 0, [], 0), (15, 1, .aaload, 0, 0, 0, [], 0), (16, 1, .iconst 0, 0, 0, 0, [], 0), (17, 1, .iaload, 0, 0, 0, [], 0), (18, 1, .iload_n 1, 0, 0, 0, [], 0), (19, 3, .if_icmp .ne 5, 16, 0, 0, [], 0), (22, 1, .iconst 1, 0, 0, 0, [], 0), (23, 1, .ireturn, 1, 0, 0, [], 0), (24, 3, .iinc 2 1, 0, 0, 0, [], 0), (27, 3, .goto (-25), 2, 0, 0, [], 0), (30, 1, .iconst 0, 0, 0, 0, [], 0), (31, 1, .ireturn, 1, 0, 0, [], 0)]
def mt_230 : ix_M := (⟨"CryGorgeModel", "isTold", "(I)Z"⟩, prog_14_method_80_code, 3, (Option.some FieldType.boolean), 2, 12, mo_230, [])
def mo_231 : List ix_Op := [(0, 1, .aload_n 0, 0, 0, 0, [], 0), (1, 1, .iconst 0, 0, 0, 0, [], 0), (2, 3, .putfield 103, 12, 0, 0, [], 0), (5, 1, .aload_n 0, 0, 0, 0, [], 0), (6, 1, .iload_n 1, 0, 0, 0, [], 0), (7, 1, .iconst 0, 0, 0, 0, [], 0), (8, 1, .iconst 1, 0, 0, 0, [], 0), (9, 3, .invokestatic 137, 155, 1, 3, [], 0), (12, 3, .ifCond .ne 7, 11, 0, 0, [], 0), (15, 1, .iconst 1, 0, 0, 0, [], 0), (16, 3, .goto 4, 12, 0, 0, [], 0), (19, 1, .iconst 0, 0, 0, 0, [], 0), (20, 1, .iconst 1, 0, 0, 0, [], 0), (21, 1, .iconst 1, 0, 0, 0, [], 0), (22, 3, .invokevirtual 176, 154, 0, 4, [12], 0), (25, 3, .ifCond .eq 5, 18, 0, 0, [], 0), (28, 1, .iconst 0, 0, 0, 0, [], 0), (29, 1, .ireturn, 0, 0, 0, [], 0), (30, 1, .iconst 0, 0, 0, 0, [], 0), (31, 1, .istore_n 2, 0, 0, 0, [], 0), (32, 1, .iconst (-1), 0, 0, 0, [], 0), (33, 1, .istore_n 3, 0, 0, 0, [], 0), (34, 1, .iconst (-1), 0, 0, 0, [], 0), (35, 2, .istore 4, 0, 0, 0, [], 0), (37, 1, .iconst 0, 0, 0, 0, [], 0), (38, 2, .istore 5, 0, 0, 0, [], 0), (40, 2, .iload 5, 0, 0, 0, [], 0), (42, 1, .aload_n 0, 0, 0, 0, [], 0), (43, 3, .getfield 23, 12, 12, 0, [], 0), (46, 1, .iconst 1, 0, 0, 0, [], 0), (47, 1, .iaload, 0, 0, 0, [], 0), (48, 3, .if_icmp .ge 108, 85, 0, 0, [], 0), (51, 1, .iconst 0, 0, 0, 0, [], 0), (52, 2, .istore 6, 0, 0, 0, [], 0), (54, 2, .iload 6, 0, 0, 0, [], 0), (56, 1, .aload_n 0, 0, 0, 0, [], 0), (57, 3, .getfield 23, 12, 12, 0, [], 0), (60, 1, .iconst 0, 0, 0, 0, [], 0), (61, 1, .iaload, 0, 0, 0, [], 0), (62, 3, .if_icmp .ge 88, 83, 0, 0, [], 0), (65, 1, .aload_n 0, 0, 0, 0, [], 0), (66, 2, .iload 5, 0, 0, 0, [], 0), (68, 2, .iload 6, 0, 0, 0, [], 0), (70, 3, .invokevirtual 351, 228, 0, 3, [12], 0), (73, 3, .ifCond .ne 6, 46, 0, 0, [], 0), (76, 3, .goto 68, 81, 0, 0, [], 0), (79, 1, .aload_n 0, 0, 0, 0, [], 0), (80, 3, .getfield 37, 12, 16, 0, [], 0), (83, 2, .iload 5, 0, 0, 0, [], 0), (85, 1, .aaload, 0, 0, 0, [], 0), (86, 1, .iconst 1, 0, 0, 0, [], 0), (87, 1, .iaload, 0, 0, 0, [], 0), (88, 2, .istore 7, 0, 0, 0, [], 0), (90, 1, .iconst 0, 0, 0, 0, [], 0), (91, 2, .istore 8, 0, 0, 0, [], 0), (93, 2, .iload 8, 0, 0, 0, [], 0), (95, 2, .bipush 40, 0, 0, 0, [], 0), (97, 3, .if_icmp .gt 44, 80, 0, 0, [], 0), (100, 1, .aload_n 0, 0, 0, 0, [], 0), (101, 3, .getfield 91, 12, 45, 0, [], 0), (104, 1, .iload_n 2, 0, 0, 0, [], 0), (105, 1, .aaload, 0, 0, 0, [], 0), (106, 2, .iload 8, 0, 0, 0, [], 0), (108, 2, .iload 7, 0, 0, 0, [], 0), (110, 1, .iastore, 0, 0, 0, [], 0), (111, 2, .iload 7, 0, 0, 0, [], 0), (113, 1, .aload_n 0, 0, 0, 0, [], 0), (114, 1, .aload_n 0, 0, 0, 0, [], 0), (115, 3, .getfield 70, 12, 30, 0, [], 0), (118, 2, .iload 5, 0, 0, 0, [], 0), (120, 2, .iload 6, 0, 0, 0, [], 0), (122, 1, .iconst 0, 0, 0, 0, [], 0), (123, 2, .iload 7, 0, 0, 0, [], 0), (125, 2, .iload 8, 0, 0, 0, [], 0), (127, 2, .iload 8, 0, 0, 0, [], 0), (129, 3, .invokevirtual 272, 199, 0, 8, [12], 0), (132, 1, .isub, 0, 0, 0, [], 0), (133, 2, .istore 7, 0, 0, 0, [], 0), (135, 3, .iinc 8 1, 0, 0, 0, [], 0), (138, 3, .goto (-45), 55, 0, 0, [], 0), (141, 3, .iinc 2 1, 0, 0, 0, [], 0), (144, 3, .iinc 6 1, 0, 0, 0, [], 0), (147, 3, .goto (-93), 34, 0, 0, [], 0), (150, 3, .iinc 5 1, 0, 0, 0, [], 0), (153, 3, .goto (-113), 26, 0, 0, [], 0), (156, 1, .iconst 0, 0, 0, 0, [], 0), (157, 2, .istore 5, 0, 0, 0, [], 0), (159, 2, .iload 5, 0, 0, 0, [], 0), (161, 2, .bipush 40, 0, 0, 0, [], 0), (163, 3, .if_icmp .gt 126, 154, 0, 0, [], 0), (166, 1, .aload_n 0, 0, 0, 0, [], 0), (167, 2, .iload 5, 0, 0, 0, [], 0), (169, 3, .invokevirtual 354, 230, 0, 2, [12], 0), (172, 3, .ifCond .eq 6, 95, 0, 0, [], 0), (175, 3, .goto 108, 152, 0, 0, [], 0), (178, 1, .iconst 0, 0, 0, 0, [], 0), (179, 2, .istore 6, 0, 0, 0, [], 0), (181, 1, .iconst 0, 0, 0, 0, [], 0), (182, 2, .istore 7, 0, 0, 0, [], 0), (184, 2, .iload 7, 0, 0, 0, [], 0), (186, 2, .bipush 99, 0, 0, 0, [], 0), (188, 3, .if_icmp .gt 17, 109, 0, 0, [], 0), (191, 1, .aload_n 0, 0, 0, 0, [], 0), (192, 3, .getfield 88, 12, 44, 0, [], 0), (195, 2, .iload 7, 0, 0, 0, [], 0), (197, 1, .iconst 0, 0, 0, 0, [], 0), (198, 1, .iastore, 0, 0, 0, [], 0), (199, 3, .iinc 7 1, 0, 0, 0, [], 0), (202, 3, .goto (-18), 99, 0, 0, [], 0), (205, 1, .iconst 0, 0, 0, 0, [], 0), (206, 2, .istore 7, 0, 0, 0, [], 0), (208, 2, .iload 7, 0, 0, 0, [], 0), (210, 1, .iload_n 2, 0, 0, 0, [], 0), (211, 3, .if_icmp .ge 50, 141, 0, 0, [], 0), (214, 1, .aload_n 0, 0, 0, 0, [], 0), (215, 3, .getfield 88, 12, 44, 0, [], 0), (218, 1, .aload_n 0, 0, 0, 0, [], 0), (219, 3, .getfield 91, 12, 45, 0, [], 0), (222, 2, .iload 7, 0, 0, 0, [], 0), (224, 1, .aaload, 0, 0, 0, [], 0), (225, 2, .iload 5, 0, 0, 0, [], 0), (227, 1, .iaload, 0, 0, 0, [], 0), (228, 1, .dup2, 0, 0, 0, [], 0), (229, 1, .iaload, 0, 0, 0, [], 0), (230, 1, .iconst 1, 0, 0, 0, [], 0), (231, 1, .iadd, 0, 0, 0, [], 0), (232, 1, .iastore, 0, 0, 0, [], 0), (233, 2, .iload 6, 0, 0, 0, [], 0), (235, 1, .aload_n 0, 0, 0, 0, [], 0), (236, 3, .getfield 88, 12, 44, 0, [], 0), (239, 1, .aload_n 0, 0, 0, 0, [], 0), (240, 3, .getfield 91, 12, 45, 0, [], 0), (243, 2, .iload 7, 0, 0, 0, [], 0), (245, 1, .aaload, 0, 0, 0, [], 0), (246, 2, .iload 5, 0, 0, 0, [], 0), (248, 1, .iaload, 0, 0, 0, [], 0), (249, 1, .iaload, 0, 0, 0, [], 0), (250, 3, .invokestatic 245, 157, 1, 2, [], 0), (253, 2, .istore 6, 0, 0, 0, [], 0), (255, 3, .iinc 7 1, 0, 0, 0, [], 0), (258, 3, .goto (-50), 111, 0, 0, [], 0), (261, 1, .iload_n 3, 0, 0, 0, [], 0), (262, 1, .iconst (-1), 0, 0, 0, [], 0), (263, 3, .if_icmp .eq 13, 148, 0, 0, [], 0), (266, 2, .iload 6, 0, 0, 0, [], 0), (268, 2, .iload 4, 0, 0, 0, [], 0), (270, 3, .if_icmp .lt 6, 148, 0, 0, [], 0), (273, 3, .goto 10, 152, 0, 0, [], 0), (276, 2, .iload 5, 0, 0, 0, [], 0), (278, 1, .istore_n 3, 0, 0, 0, [], 0), (279, 2, .iload 6, 0, 0, 0, [], 0), (281, 2, .istore 4, 0, 0, 0, [], 0), (283, 3, .iinc 5 1, 0, 0, 0, [], 0), (286, 3, .goto (-127), 87, 0, 0, [], 0), (289, 1, .iload_n 1, 0, 0, 0, [], 0), (290, 3, .ifCond .ne 7, 158, 0, 0, [], 0), (293, 1, .iload_n 3, 0, 0, 0, [], 0), (294, 3, .goto 5, 159, 0, 0, [], 0), (297, 2, .iload 4, 0, 0, 0, [], 0), (299, 1, .ireturn, 0, 0, 0, [], 0)]
def mt_231 : ix_M := (⟨"CryGorgeModel", "listen", "(I)I"⟩, prog_14_method_81_code, 9, (Option.some FieldType.int), 2, 12, mo_231, [])
def mo_232 : List ix_Op := [(0, 1, .aload_n 0, 0, 0, 0, [], 0), (1, 3, .getfield 37, 12, 16, 0, [], 0), (4, 1, .iload_n 1, 0, 0, 0, [], 0), (5, 1, .aaload, 0, 0, 0, [], 0), (6, 1, .iconst 0, 0, 0, 0, [], 0), (7, 1, .iaload, 0, 0, 0, [], 0), (8, 1, .aload_n 0, 0, 0, 0, [], 0), (9, 3, .getfield 37, 12, 16, 0, [], 0), (12, 1, .iload_n 2, 0, 0, 0, [], 0), (13, 1, .aaload, 0, 0, 0, [], 0), (14, 1, .iconst 0, 0, 0, 0, [], 0), (15, 1, .iaload, 0, 0, 0, [], 0), (16, 1, .isub, 0, 0, 0, [], 0), (17, 1, .aload_n 0, 0, 0, 0, [], 0), (18, 3, .getfield 37, 12, 16, 0, [], 0), (21, 1, .iload_n 2, 0, 0, 0, [], 0), (22, 1, .aaload, 0, 0, 0, [], 0), (23, 1, .iconst 0, 0, 0, 0, [], 0), (24, 1, .iaload, 0, 0, 0, [], 0), (25, 1, .aload_n 0, 0, 0, 0, [], 0), (26, 3, .getfield 37, 12, 16, 0, [], 0), (29, 1, .iload_n 1, 0, 0, 0, [], 0), (30, 1, .aaload, 0, 0, 0, [], 0), (31, 1, .iconst 0, 0, 0, 0, [], 0), (32, 1, .iaload, 0, 0, 0, [], 0), (33, 1, .isub, 0, 0, 0, [], 0), (34, 3, .invokestatic 245, 157, 1, 2, [], 0), (37, 2, .bipush 12, 0, 0, 0, [], 0), (39, 1, .irem, 0, 0, 0, [], 0), (40, 1, .ireturn, 0, 0, 0, [], 0)]
def mt_232 : ix_M := (⟨"CryGorgeModel", "apart", "(II)I"⟩, prog_14_method_82_code, 3, (Option.some FieldType.int), 3, 12, mo_232, [])
def mo_233 : List ix_Op := [(0, 1, .aload_n 0, 0, 0, 0, [], 0), (1, 1, .iconst 0, 0, 0, 0, [], 0), (2, 3, .putfield 103, 12, 0, 0, [], 0), (5, 1, .aload_n 0, 0, 0, 0, [], 0), (6, 1, .aload_n 0, 0, 0, 0, [], 0), (7, 1, .iload_n 1, 0, 0, 0, [], 0), (8, 3, .invokevirtual 326, 213, 0, 2, [12], 0), (11, 3, .ifCond .eq 11, 12, 0, 0, [], 0), (14, 1, .aload_n 0, 0, 0, 0, [], 0), (15, 1, .iload_n 2, 0, 0, 0, [], 0), (16, 3, .invokevirtual 326, 213, 0, 2, [12], 0), (19, 3, .ifCond .ne 7, 14, 0, 0, [], 0), (22, 1, .iconst 1, 0, 0, 0, [], 0), (23, 3, .goto 4, 15, 0, 0, [], 0), (26, 1, .iconst 0, 0, 0, 0, [], 0), (27, 1, .iconst 1, 0, 0, 0, [], 0), (28, 1, .iconst 0, 0, 0, 0, [], 0), (29, 3, .invokevirtual 176, 154, 0, 4, [12], 0), (32, 3, .ifCond .eq 5, 21, 0, 0, [], 0), (35, 1, .iconst 0, 0, 0, 0, [], 0), (36, 1, .ireturn, 0, 0, 0, [], 0), (37, 1, .aload_n 0, 0, 0, 0, [], 0), (38, 1, .iload_n 1, 0, 0, 0, [], 0), (39, 1, .iload_n 2, 0, 0, 0, [], 0), (40, 3, .invokevirtual 357, 232, 0, 3, [12], 0), (43, 1, .ireturn, 0, 0, 0, [], 0)]
def mt_233 : ix_M := (⟨"CryGorgeModel", "interval", "(II)I"⟩, prog_14_method_83_code, 3, (Option.some FieldType.int), 3, 12, mo_233, [])
def mo_234 : List ix_Op := [(0, 1, .aload_n 0, 0, 0, 0, [], 0), (1, 1, .iconst 0, 0, 0, 0, [], 0), (2, 3, .putfield 103, 12, 0, 0, [], 0), (5, 1, .aload_n 0, 0, 0, 0, [], 0), (6, 1, .iload_n 1, 0, 0, 0, [], 0), (7, 1, .iconst 0, 0, 0, 0, [], 0), (8, 2, .bipush 11, 0, 0, 0, [], 0), (10, 3, .invokestatic 137, 155, 1, 3, [], 0), (13, 3, .ifCond .eq 12, 14, 0, 0, [], 0), (16, 1, .iload_n 2, 0, 0, 0, [], 0), (17, 1, .iconst 0, 0, 0, 0, [], 0), (18, 1, .iconst 1, 0, 0, 0, [], 0), (19, 3, .invokestatic 137, 155, 1, 3, [], 0), (22, 3, .ifCond .ne 7, 16, 0, 0, [], 0), (25, 1, .iconst 1, 0, 0, 0, [], 0), (26, 3, .goto 4, 17, 0, 0, [], 0), (29, 1, .iconst 0, 0, 0, 0, [], 0), (30, 1, .iconst 1, 0, 0, 0, [], 0), (31, 1, .iconst 1, 0, 0, 0, [], 0), (32, 3, .invokevirtual 176, 154, 0, 4, [12], 0), (35, 3, .ifCond .eq 5, 23, 0, 0, [], 0), (38, 1, .iconst 0, 0, 0, 0, [], 0), (39, 1, .ireturn, 0, 0, 0, [], 0), (40, 1, .iconst 0, 0, 0, 0, [], 0), (41, 1, .istore_n 3, 0, 0, 0, [], 0), (42, 1, .iconst (-1), 0, 0, 0, [], 0), (43, 2, .istore 4, 0, 0, 0, [], 0), (45, 1, .iconst 0, 0, 0, 0, [], 0), (46, 2, .istore 5, 0, 0, 0, [], 0), (48, 2, .iload 5, 0, 0, 0, [], 0), (50, 1, .aload_n 0, 0, 0, 0, [], 0), (51, 3, .getfield 23, 12, 12, 0, [], 0), (54, 1, .iconst 1, 0, 0, 0, [], 0), (55, 1, .iaload, 0, 0, 0, [], 0), (56, 3, .if_icmp .ge 69, 67, 0, 0, [], 0), (59, 2, .iload 5, 0, 0, 0, [], 0), (61, 1, .iconst 1, 0, 0, 0, [], 0), (62, 1, .iadd, 0, 0, 0, [], 0), (63, 2, .istore 6, 0, 0, 0, [], 0), (65, 2, .iload 6, 0, 0, 0, [], 0), (67, 1, .aload_n 0, 0, 0, 0, [], 0), (68, 3, .getfield 23, 12, 12, 0, [], 0), (71, 1, .iconst 1, 0, 0, 0, [], 0), (72, 1, .iaload, 0, 0, 0, [], 0), (73, 3, .if_icmp .ge 46, 65, 0, 0, [], 0), (76, 1, .aload_n 0, 0, 0, 0, [], 0), (77, 2, .iload 5, 0, 0, 0, [], 0), (79, 2, .iload 6, 0, 0, 0, [], 0), (81, 3, .invokevirtual 357, 232, 0, 3, [12], 0), (84, 1, .iload_n 1, 0, 0, 0, [], 0), (85, 3, .if_icmp .eq 6, 52, 0, 0, [], 0), (88, 3, .goto 25, 63, 0, 0, [], 0), (91, 1, .iload_n 3, 0, 0, 0, [], 0), (92, 3, .ifCond .ne 14, 60, 0, 0, [], 0), (95, 2, .bipush 10, 0, 0, 0, [], 0), (97, 2, .iload 5, 0, 0, 0, [], 0), (99, 1, .imul, 0, 0, 0, [], 0), (100, 2, .iload 6, 0, 0, 0, [], 0), (102, 1, .iadd, 0, 0, 0, [], 0), (103, 3, .goto 5, 61, 0, 0, [], 0), (106, 2, .iload 4, 0, 0, 0, [], 0), (108, 2, .istore 4, 0, 0, 0, [], 0), (110, 3, .iinc 3 1, 0, 0, 0, [], 0), (113, 3, .iinc 6 1, 0, 0, 0, [], 0), (116, 3, .goto (-51), 39, 0, 0, [], 0), (119, 3, .iinc 5 1, 0, 0, 0, [], 0), (122, 3, .goto (-74), 29, 0, 0, [], 0), (125, 1, .iload_n 2, 0, 0, 0, [], 0), (126, 3, .ifCond .ne 7, 71, 0, 0, [], 0), (129, 1, .iload_n 3, 0, 0, 0, [], 0), (130, 3, .goto 5, 72, 0, 0, [], 0), (133, 2, .iload 4, 0, 0, 0, [], 0), (135, 1, .ireturn, 0, 0, 0, [], 0)]
def mt_234 : ix_M := (⟨"CryGorgeModel", "pairs", "(II)I"⟩, prog_14_method_84_code, 7, (Option.some FieldType.int), 3, 12, mo_234, [])
def mo_235 : List ix_Op := [(0, 1, .aload_n 0, 0, 0, 0, [], 0), (1, 1, .iconst 0, 0, 0, 0, [], 0), (2, 3, .putfield 103, 12, 0, 0, [], 0), (5, 1, .aload_n 0, 0, 0, 0, [], 0), (6, 1, .iload_n 1, 0, 0, 0, [], 0), (7, 1, .iconst 0, 0, 0, 0, [], 0), (8, 3, .sipush 792, 0, 0, 0, [], 0), (11, 3, .invokestatic 137, 155, 1, 3, [], 0), (14, 3, .ifCond .eq 12, 14, 0, 0, [], 0), (17, 1, .iload_n 2, 0, 0, 0, [], 0), (18, 1, .iconst 0, 0, 0, 0, [], 0), (19, 1, .iconst 2, 0, 0, 0, [], 0), (20, 3, .invokestatic 137, 155, 1, 3, [], 0), (23, 3, .ifCond .ne 7, 16, 0, 0, [], 0), (26, 1, .iconst 1, 0, 0, 0, [], 0), (27, 3, .goto 4, 17, 0, 0, [], 0), (30, 1, .iconst 0, 0, 0, 0, [], 0), (31, 1, .iconst 1, 0, 0, 0, [], 0), (32, 1, .iconst 1, 0, 0, 0, [], 0), (33, 3, .invokevirtual 176, 154, 0, 4, [12], 0), (36, 3, .ifCond .eq 5, 23, 0, 0, [], 0), (39, 1, .iconst 0, 0, 0, 0, [], 0), (40, 1, .ireturn, 0, 0, 0, [], 0), (41, 1, .iconst 0, 0, 0, 0, [], 0), (42, 1, .istore_n 3, 0, 0, 0, [], 0), (43, 1, .iconst (-1), 0, 0, 0, [], 0), (44, 2, .istore 4, 0, 0, 0, [], 0), (46, 1, .iconst 1, 0, 0, 0, [], 0), (47, 1, .aload_n 0, 0, 0, 0, [], 0), (48, 3, .getfield 23, 12, 12, 0, [], 0), (51, 1, .iconst 1, 0, 0, 0, [], 0), (52, 1, .iaload, 0, 0, 0, [], 0), (53, 1, .ishl, 0, 0, 0, [], 0), (54, 1, .iconst 1, 0, 0, 0, [], 0), (55, 1, .isub, 0, 0, 0, [], 0), (56, 2, .istore 5, 0, 0, 0, [], 0), (58, 1, .iconst 0, 0, 0, 0, [], 0), (59, 2, .istore 6, 0, 0, 0, [], 0), (61, 2, .iload 6, 0, 0, 0, [], 0), (63, 1, .iconst 1, 0, 0, 0, [], 0), (64, 1, .aload_n 0, 0, 0, 0, [], 0), (65, 3, .getfield 23, 12, 12, 0, [], 0), (68, 1, .iconst 1, 0, 0, 0, [], 0), (69, 1, .iaload, 0, 0, 0, [], 0), (70, 1, .ishl, 0, 0, 0, [], 0), (71, 3, .if_icmp .ge 137, 112, 0, 0, [], 0), (74, 1, .iconst 0, 0, 0, 0, [], 0), (75, 2, .istore 7, 0, 0, 0, [], 0), (77, 1, .iconst 1, 0, 0, 0, [], 0), (78, 2, .istore 8, 0, 0, 0, [], 0), (80, 1, .iconst 0, 0, 0, 0, [], 0), (81, 2, .istore 9, 0, 0, 0, [], 0), (83, 2, .iload 9, 0, 0, 0, [], 0), (85, 1, .aload_n 0, 0, 0, 0, [], 0), (86, 3, .getfield 23, 12, 12, 0, [], 0), (89, 1, .iconst 1, 0, 0, 0, [], 0), (90, 1, .iaload, 0, 0, 0, [], 0), (91, 3, .if_icmp .ge 74, 93, 0, 0, [], 0), (94, 2, .iload 7, 0, 0, 0, [], 0), (96, 2, .iload 6, 0, 0, 0, [], 0), (98, 2, .iload 9, 0, 0, 0, [], 0), (100, 3, .invokestatic 329, 158, 1, 2, [], 0), (103, 3, .ifCond .eq 16, 70, 0, 0, [], 0), (106, 1, .aload_n 0, 0, 0, 0, [], 0), (107, 3, .getfield 70, 12, 30, 0, [], 0), (110, 2, .bipush 8, 0, 0, 0, [], 0), (112, 2, .iload 9, 0, 0, 0, [], 0), (114, 1, .iadd, 0, 0, 0, [], 0), (115, 1, .iaload, 0, 0, 0, [], 0), (116, 3, .goto 4, 71, 0, 0, [], 0), (119, 1, .iconst 0, 0, 0, 0, [], 0), (120, 1, .iadd, 0, 0, 0, [], 0), (121, 2, .istore 7, 0, 0, 0, [], 0), (123, 2, .iload 8, 0, 0, 0, [], 0), (125, 3, .ifCond .eq 31, 89, 0, 0, [], 0), (128, 2, .iload 6, 0, 0, 0, [], 0), (130, 2, .iload 9, 0, 0, 0, [], 0), (132, 3, .invokestatic 329, 158, 1, 2, [], 0), (135, 3, .ifCond .eq 17, 87, 0, 0, [], 0), (138, 1, .aload_n 0, 0, 0, 0, [], 0), (139, 3, .getfield 70, 12, 30, 0, [], 0), (142, 1, .iconst 0, 0, 0, 0, [], 0), (143, 2, .iload 9, 0, 0, 0, [], 0), (145, 1, .iadd, 0, 0, 0, [], 0), (146, 1, .iaload, 0, 0, 0, [], 0), (147, 2, .bipush (-2), 0, 0, 0, [], 0), (149, 3, .if_icmp .eq 7, 89, 0, 0, [], 0), (152, 1, .iconst 1, 0, 0, 0, [], 0), (153, 3, .goto 4, 90, 0, 0, [], 0), (156, 1, .iconst 0, 0, 0, 0, [], 0), (157, 2, .istore 8, 0, 0, 0, [], 0), (159, 3, .iinc 9 1, 0, 0, 0, [], 0), (162, 3, .goto (-79), 52, 0, 0, [], 0), (165, 2, .iload 8, 0, 0, 0, [], 0), (167, 3, .ifCond .eq 35, 110, 0, 0, [], 0), (170, 2, .iload 7, 0, 0, 0, [], 0), (172, 1, .iload_n 1, 0, 0, 0, [], 0), (173, 3, .if_icmp .eq 6, 99, 0, 0, [], 0), (176, 3, .goto 26, 110, 0, 0, [], 0), (179, 1, .iload_n 3, 0, 0, 0, [], 0), (180, 3, .ifCond .ne 8, 103, 0, 0, [], 0), (183, 2, .iload 6, 0, 0, 0, [], 0), (185, 3, .goto 5, 104, 0, 0, [], 0), (188, 2, .iload 4, 0, 0, 0, [], 0), (190, 2, .istore 4, 0, 0, 0, [], 0), (192, 2, .iload 5, 0, 0, 0, [], 0), (194, 2, .iload 6, 0, 0, 0, [], 0), (196, 1, .iand, 0, 0, 0, [], 0), (197, 2, .istore 5, 0, 0, 0, [], 0), (199, 3, .iinc 3 1, 0, 0, 0, [], 0), (202, 3, .iinc 6 1, 0, 0, 0, [], 0), (205, 3, .goto (-144), 38, 0, 0, [], 0), (208, 1, .iload_n 2, 0, 0, 0, [], 0), (209, 3, .ifCond .ne 7, 116, 0, 0, [], 0), (212, 1, .iload_n 3, 0, 0, 0, [], 0), (213, 3, .goto 23, 126, 0, 0, [], 0), (216, 1, .iload_n 2, 0, 0, 0, [], 0), (217, 1, .iconst 1, 0, 0, 0, [], 0), (218, 3, .if_icmp .ne 8, 121, 0, 0, [], 0), (221, 2, .iload 4, 0, 0, 0, [], 0), (223, 3, .goto 13, 126, 0, 0, [], 0), (226, 1, .iload_n 3, 0, 0, 0, [], 0), (227, 3, .ifCond .ne 7, 125, 0, 0, [], 0), (230, 1, .iconst 0, 0, 0, 0, [], 0), (231, 3, .goto 5, 126, 0, 0, [], 0), (234, 2, .iload 5, 0, 0, 0, [], 0), (236, 1, .ireturn, 0, 0, 0, [], 0)]
def mt_235 : ix_M := (⟨"CryGorgeModel", "chord", "(II)I"⟩, prog_14_method_85_code, 10, (Option.some FieldType.int), 3, 12, mo_235, [])
def mo_236 : List ix_Op := [(0, 1, .aload_n 0, 0, 0, 0, [], 0), (1, 1, .iconst 0, 0, 0, 0, [], 0), (2, 3, .putfield 103, 12, 0, 0, [], 0), (5, 1, .aload_n 0, 0, 0, 0, [], 0), (6, 1, .aload_n 0, 0, 0, 0, [], 0), (7, 1, .iload_n 1, 0, 0, 0, [], 0), (8, 3, .invokevirtual 320, 212, 0, 2, [12], 0), (11, 3, .ifCond .eq 11, 12, 0, 0, [], 0), (14, 1, .aload_n 0, 0, 0, 0, [], 0), (15, 1, .iload_n 2, 0, 0, 0, [], 0), (16, 3, .invokevirtual 320, 212, 0, 2, [12], 0), (19, 3, .ifCond .ne 7, 14, 0, 0, [], 0), (22, 1, .iconst 1, 0, 0, 0, [], 0), (23, 3, .goto 4, 15, 0, 0, [], 0), (26, 1, .iconst 0, 0, 0, 0, [], 0), (27, 1, .iconst 1, 0, 0, 0, [], 0), (28, 1, .iconst 0, 0, 0, 0, [], 0), (29, 3, .invokevirtual 176, 154, 0, 4, [12], 0), (32, 3, .ifCond .ne 26, 32, 0, 0, [], 0), (35, 1, .aload_n 0, 0, 0, 0, [], 0), (36, 1, .iload_n 3, 0, 0, 0, [], 0), (37, 1, .iconst 0, 0, 0, 0, [], 0), (38, 1, .iconst 1, 0, 0, 0, [], 0), (39, 3, .invokestatic 137, 155, 1, 3, [], 0), (42, 3, .ifCond .ne 7, 27, 0, 0, [], 0), (45, 1, .iconst 1, 0, 0, 0, [], 0), (46, 3, .goto 4, 28, 0, 0, [], 0), (49, 1, .iconst 0, 0, 0, 0, [], 0), (50, 1, .iconst 2, 0, 0, 0, [], 0), (51, 1, .iconst 1, 0, 0, 0, [], 0), (52, 3, .invokevirtual 176, 154, 0, 4, [12], 0), (55, 3, .ifCond .eq 5, 34, 0, 0, [], 0), (58, 1, .iconst 0, 0, 0, 0, [], 0), (59, 1, .ireturn, 0, 0, 0, [], 0), (60, 1, .aload_n 0, 0, 0, 0, [], 0), (61, 3, .getfield 46, 12, 19, 0, [], 0), (64, 1, .iload_n 1, 0, 0, 0, [], 0), (65, 1, .aaload, 0, 0, 0, [], 0), (66, 1, .iload_n 2, 0, 0, 0, [], 0), (67, 1, .iaload, 0, 0, 0, [], 0), (68, 2, .ldc 136, 0, 0, 0, [], 100000), (70, 3, .if_icmp .lt 5, 44, 0, 0, [], 0), (73, 1, .iconst (-1), 0, 0, 0, [], 0), (74, 1, .ireturn, 0, 0, 0, [], 0), (75, 1, .iload_n 3, 0, 0, 0, [], 0), (76, 3, .ifCond .ne 12, 53, 0, 0, [], 0), (79, 1, .aload_n 0, 0, 0, 0, [], 0), (80, 3, .getfield 46, 12, 19, 0, [], 0), (83, 1, .iload_n 1, 0, 0, 0, [], 0), (84, 1, .aaload, 0, 0, 0, [], 0), (85, 1, .iload_n 2, 0, 0, 0, [], 0), (86, 1, .iaload, 0, 0, 0, [], 0), (87, 1, .ireturn, 0, 0, 0, [], 0), (88, 1, .iconst 0, 0, 0, 0, [], 0), (89, 2, .istore 4, 0, 0, 0, [], 0), (91, 2, .iload 4, 0, 0, 0, [], 0), (93, 1, .aload_n 0, 0, 0, 0, [], 0), (94, 3, .getfield 23, 12, 12, 0, [], 0), (97, 1, .iconst 0, 0, 0, 0, [], 0), (98, 1, .iaload, 0, 0, 0, [], 0), (99, 3, .if_icmp .ge 59, 95, 0, 0, [], 0), (102, 1, .iload_n 1, 0, 0, 0, [], 0), (103, 1, .iload_n 2, 0, 0, 0, [], 0), (104, 3, .if_icmp .eq 54, 95, 0, 0, [], 0), (107, 1, .aload_n 0, 0, 0, 0, [], 0), (108, 3, .getfield 43, 12, 18, 0, [], 0), (111, 1, .iload_n 1, 0, 0, 0, [], 0), (112, 1, .aaload, 0, 0, 0, [], 0), (113, 2, .iload 4, 0, 0, 0, [], 0), (115, 1, .iaload, 0, 0, 0, [], 0), (116, 3, .ifCond .le 36, 93, 0, 0, [], 0), (119, 1, .aload_n 0, 0, 0, 0, [], 0), (120, 3, .getfield 43, 12, 18, 0, [], 0), (123, 1, .iload_n 1, 0, 0, 0, [], 0), (124, 1, .aaload, 0, 0, 0, [], 0), (125, 2, .iload 4, 0, 0, 0, [], 0), (127, 1, .iaload, 0, 0, 0, [], 0), (128, 1, .aload_n 0, 0, 0, 0, [], 0), (129, 3, .getfield 46, 12, 19, 0, [], 0), (132, 2, .iload 4, 0, 0, 0, [], 0), (134, 1, .aaload, 0, 0, 0, [], 0), (135, 1, .iload_n 2, 0, 0, 0, [], 0), (136, 1, .iaload, 0, 0, 0, [], 0), (137, 1, .iadd, 0, 0, 0, [], 0), (138, 1, .aload_n 0, 0, 0, 0, [], 0), (139, 3, .getfield 46, 12, 19, 0, [], 0), (142, 1, .iload_n 1, 0, 0, 0, [], 0), (143, 1, .aaload, 0, 0, 0, [], 0), (144, 1, .iload_n 2, 0, 0, 0, [], 0), (145, 1, .iaload, 0, 0, 0, [], 0), (146, 3, .if_icmp .ne 6, 93, 0, 0, [], 0), (149, 2, .iload 4, 0, 0, 0, [], 0), (151, 1, .ireturn, 0, 0, 0, [], 0), (152, 3, .iinc 4 1, 0, 0, 0, [], 0), (155, 3, .goto (-64), 55, 0, 0, [], 0), (158, 1, .iconst (-1), 0, 0, 0, [], 0), (159, 1, .ireturn, 0, 0, 0, [], 0)]
def mt_236 : ix_M := (⟨"CryGorgeModel", "way", "(III)I"⟩, prog_14_method_86_code, 5, (Option.some FieldType.int), 4, 12, mo_236, [])
def mo_237 : List ix_Op := [(0, 1, .aload_n 0, 0, 0, 0, [], 0), (1, 1, .iconst 0, 0, 0, 0, [], 0), (2, 3, .putfield 103, 12, 0, 0, [], 0), (5, 1, .aload_n 0, 0, 0, 0, [], 0), (6, 1, .aload_n 0, 0, 0, 0, [], 0), (7, 1, .iload_n 1, 0, 0, 0, [], 0), (8, 3, .invokevirtual 320, 212, 0, 2, [12], 0), (11, 3, .ifCond .ne 7, 10, 0, 0, [], 0), (14, 1, .iconst 1, 0, 0, 0, [], 0), (15, 3, .goto 4, 11, 0, 0, [], 0), (18, 1, .iconst 0, 0, 0, 0, [], 0), (19, 1, .iconst 1, 0, 0, 0, [], 0), (20, 1, .iconst 0, 0, 0, 0, [], 0), (21, 3, .invokevirtual 176, 154, 0, 4, [12], 0), (24, 3, .ifCond .ne 35, 35, 0, 0, [], 0), (27, 1, .aload_n 0, 0, 0, 0, [], 0), (28, 1, .iload_n 2, 0, 0, 0, [], 0), (29, 1, .iconst 0, 0, 0, 0, [], 0), (30, 1, .iconst 1, 0, 0, 0, [], 0), (31, 1, .aload_n 0, 0, 0, 0, [], 0), (32, 3, .getfield 23, 12, 12, 0, [], 0), (35, 1, .iconst 0, 0, 0, 0, [], 0), (36, 1, .iaload, 0, 0, 0, [], 0), (37, 1, .ishl, 0, 0, 0, [], 0), (38, 1, .iconst 1, 0, 0, 0, [], 0), (39, 1, .isub, 0, 0, 0, [], 0), (40, 3, .invokestatic 137, 155, 1, 3, [], 0), (43, 3, .ifCond .ne 7, 30, 0, 0, [], 0), (46, 1, .iconst 1, 0, 0, 0, [], 0), (47, 3, .goto 4, 31, 0, 0, [], 0), (50, 1, .iconst 0, 0, 0, 0, [], 0), (51, 1, .iconst 2, 0, 0, 0, [], 0), (52, 1, .iconst 1, 0, 0, 0, [], 0), (53, 3, .invokevirtual 176, 154, 0, 4, [12], 0), (56, 3, .ifCond .eq 5, 37, 0, 0, [], 0), (59, 1, .iconst 0, 0, 0, 0, [], 0), (60, 1, .ireturn, 0, 0, 0, [], 0), (61, 1, .iconst 0, 0, 0, 0, [], 0), (62, 1, .istore_n 3, 0, 0, 0, [], 0), (63, 1, .iload_n 3, 0, 0, 0, [], 0), (64, 2, .bipush 64, 0, 0, 0, [], 0), (66, 3, .if_icmp .ge 36, 58, 0, 0, [], 0), (69, 1, .iconst 0, 0, 0, 0, [], 0), (70, 2, .istore 4, 0, 0, 0, [], 0), (72, 2, .iload 4, 0, 0, 0, [], 0), (74, 2, .bipush 6, 0, 0, 0, [], 0), (76, 3, .if_icmp .ge 20, 56, 0, 0, [], 0), (79, 1, .aload_n 0, 0, 0, 0, [], 0), (80, 3, .getfield 94, 12, 46, 0, [], 0), (83, 1, .iload_n 3, 0, 0, 0, [], 0), (84, 1, .aaload, 0, 0, 0, [], 0), (85, 2, .iload 4, 0, 0, 0, [], 0), (87, 2, .ldc 136, 0, 0, 0, [], 100000), (89, 1, .iastore, 0, 0, 0, [], 0), (90, 3, .iinc 4 1, 0, 0, 0, [], 0), (93, 3, .goto (-21), 44, 0, 0, [], 0), (96, 3, .iinc 3 1, 0, 0, 0, [], 0), (99, 3, .goto (-36), 39, 0, 0, [], 0), (102, 1, .aload_n 0, 0, 0, 0, [], 0), (103, 3, .getfield 94, 12, 46, 0, [], 0), (106, 1, .iload_n 2, 0, 0, 0, [], 0), (107, 1, .iconst 1, 0, 0, 0, [], 0), (108, 1, .iload_n 1, 0, 0, 0, [], 0), (109, 1, .ishl, 0, 0, 0, [], 0), (110, 1, .iand, 0, 0, 0, [], 0), (111, 1, .aaload, 0, 0, 0, [], 0), (112, 1, .iload_n 1, 0, 0, 0, [], 0), (113, 1, .iconst 0, 0, 0, 0, [], 0), (114, 1, .iastore, 0, 0, 0, [], 0), (115, 2, .ldc 136, 0, 0, 0, [], 100000), (117, 1, .istore_n 3, 0, 0, 0, [], 0), (118, 1, .iconst 0, 0, 0, 0, [], 0), (119, 2, .istore 4, 0, 0, 0, [], 0), (121, 2, .iload 4, 0, 0, 0, [], 0), (123, 1, .iload_n 2, 0, 0, 0, [], 0), (124, 3, .if_icmp .gt 160, 159, 0, 0, [], 0), (127, 1, .iconst 0, 0, 0, 0, [], 0), (128, 2, .istore 5, 0, 0, 0, [], 0), (130, 2, .iload 5, 0, 0, 0, [], 0), (132, 1, .aload_n 0, 0, 0, 0, [], 0), (133, 3, .getfield 23, 12, 12, 0, [], 0), (136, 1, .iconst 0, 0, 0, 0, [], 0), (137, 1, .iaload, 0, 0, 0, [], 0), (138, 3, .if_icmp .ge 140, 157, 0, 0, [], 0), (141, 2, .iload 4, 0, 0, 0, [], 0), (143, 1, .iload_n 2, 0, 0, 0, [], 0), (144, 3, .if_icmp .ne 18, 96, 0, 0, [], 0), (147, 1, .iload_n 3, 0, 0, 0, [], 0), (148, 1, .aload_n 0, 0, 0, 0, [], 0), (149, 3, .getfield 94, 12, 46, 0, [], 0), (152, 2, .iload 4, 0, 0, 0, [], 0), (154, 1, .aaload, 0, 0, 0, [], 0), (155, 2, .iload 5, 0, 0, 0, [], 0), (157, 1, .iaload, 0, 0, 0, [], 0), (158, 3, .invokestatic 211, 156, 1, 2, [], 0), (161, 1, .istore_n 3, 0, 0, 0, [], 0), (162, 1, .iconst 0, 0, 0, 0, [], 0), (163, 2, .istore 6, 0, 0, 0, [], 0), (165, 2, .iload 6, 0, 0, 0, [], 0), (167, 1, .aload_n 0, 0, 0, 0, [], 0), (168, 3, .getfield 23, 12, 12, 0, [], 0), (171, 1, .iconst 0, 0, 0, 0, [], 0), (172, 1, .iaload, 0, 0, 0, [], 0), (173, 3, .if_icmp .ge 99, 155, 0, 0, [], 0), (176, 1, .aload_n 0, 0, 0, 0, [], 0), (177, 3, .getfield 94, 12, 46, 0, [], 0), (180, 2, .iload 4, 0, 0, 0, [], 0), (182, 1, .aaload, 0, 0, 0, [], 0), (183, 2, .iload 5, 0, 0, 0, [], 0), (185, 1, .iaload, 0, 0, 0, [], 0), (186, 2, .ldc 136, 0, 0, 0, [], 100000), (188, 3, .if_icmp .ge 84, 155, 0, 0, [], 0), (191, 1, .iload_n 2, 0, 0, 0, [], 0), (192, 2, .iload 6, 0, 0, 0, [], 0), (194, 3, .invokestatic 329, 158, 1, 2, [], 0), (197, 3, .ifCond .eq 69, 153, 0, 0, [], 0), (200, 2, .iload 4, 0, 0, 0, [], 0), (202, 2, .iload 6, 0, 0, 0, [], 0), (204, 3, .invokestatic 329, 158, 1, 2, [], 0), (207, 3, .ifCond .eq 6, 121, 0, 0, [], 0), (210, 3, .goto 56, 153, 0, 0, [], 0), (213, 2, .iload 4, 0, 0, 0, [], 0), (215, 1, .iconst 1, 0, 0, 0, [], 0), (216, 2, .iload 6, 0, 0, 0, [], 0), (218, 1, .ishl, 0, 0, 0, [], 0), (219, 1, .ior, 0, 0, 0, [], 0), (220, 2, .istore 7, 0, 0, 0, [], 0), (222, 1, .aload_n 0, 0, 0, 0, [], 0), (223, 3, .getfield 94, 12, 46, 0, [], 0), (226, 2, .iload 7, 0, 0, 0, [], 0), (228, 1, .aaload, 0, 0, 0, [], 0), (229, 2, .iload 6, 0, 0, 0, [], 0), (231, 1, .aload_n 0, 0, 0, 0, [], 0), (232, 3, .getfield 94, 12, 46, 0, [], 0), (235, 2, .iload 7, 0, 0, 0, [], 0), (237, 1, .aaload, 0, 0, 0, [], 0), (238, 2, .iload 6, 0, 0, 0, [], 0), (240, 1, .iaload, 0, 0, 0, [], 0), (241, 1, .aload_n 0, 0, 0, 0, [], 0), (242, 3, .getfield 94, 12, 46, 0, [], 0), (245, 2, .iload 4, 0, 0, 0, [], 0), (247, 1, .aaload, 0, 0, 0, [], 0), (248, 2, .iload 5, 0, 0, 0, [], 0), (250, 1, .iaload, 0, 0, 0, [], 0), (251, 1, .aload_n 0, 0, 0, 0, [], 0), (252, 3, .getfield 46, 12, 19, 0, [], 0), (255, 2, .iload 5, 0, 0, 0, [], 0), (257, 1, .aaload, 0, 0, 0, [], 0), (258, 2, .iload 6, 0, 0, 0, [], 0), (260, 1, .iaload, 0, 0, 0, [], 0), (261, 1, .iadd, 0, 0, 0, [], 0), (262, 3, .invokestatic 211, 156, 1, 2, [], 0), (265, 1, .iastore, 0, 0, 0, [], 0), (266, 3, .iinc 6 1, 0, 0, 0, [], 0), (269, 3, .goto (-104), 98, 0, 0, [], 0), (272, 3, .iinc 5 1, 0, 0, 0, [], 0), (275, 3, .goto (-145), 78, 0, 0, [], 0), (278, 3, .iinc 4 1, 0, 0, 0, [], 0), (281, 3, .goto (-160), 73, 0, 0, [], 0), (284, 1, .iload_n 3, 0, 0, 0, [], 0), (285, 2, .ldc 136, 0, 0, 0, [], 100000), (287, 3, .if_icmp .lt 7, 164, 0, 0, [], 0), (290, 1, .iconst (-1), 0, 0, 0, [], 0), (291, 3, .goto 4, 165, 0, 0, [], 0), (294, 1, .iload_n 3, 0, 0, 0, [], 0), (295, 1, .ireturn, 0, 0, 0, [], 0)]
def mt_237 : ix_M := (⟨"CryGorgeModel", "round", "(II)I"⟩, prog_14_method_87_code, 8, (Option.some FieldType.int), 3, 12, mo_237, [])
def mo_238 : List ix_Op := [(0, 1, .aload_n 0, 0, 0, 0, [], 0), (1, 1, .iconst 0, 0, 0, 0, [], 0), (2, 3, .putfield 103, 12, 0, 0, [], 0), (5, 1, .iconst 1, 0, 0, 0, [], 0), (6, 1, .aload_n 0, 0, 0, 0, [], 0), (7, 3, .getfield 23, 12, 12, 0, [], 0), (10, 1, .iconst 0, 0, 0, 0, [], 0), (11, 1, .iaload, 0, 0, 0, [], 0), (12, 1, .ishl, 0, 0, 0, [], 0), (13, 1, .iconst 1, 0, 0, 0, [], 0), (14, 1, .isub, 0, 0, 0, [], 0), (15, 1, .istore_n 1, 0, 0, 0, [], 0), (16, 1, .iload_n 1, 0, 0, 0, [], 0), (17, 1, .istore_n 2, 0, 0, 0, [], 0), (18, 1, .iload_n 2, 0, 0, 0, [], 0), (19, 3, .ifCond .lt 84, 61, 0, 0, [], 0), (22, 1, .iload_n 2, 0, 0, 0, [], 0), (23, 1, .istore_n 3, 0, 0, 0, [], 0), (24, 1, .iconst 0, 0, 0, 0, [], 0), (25, 2, .istore 4, 0, 0, 0, [], 0), (27, 2, .iload 4, 0, 0, 0, [], 0), (29, 1, .aload_n 0, 0, 0, 0, [], 0), (30, 3, .getfield 23, 12, 12, 0, [], 0), (33, 1, .iconst 0, 0, 0, 0, [], 0), (34, 1, .iaload, 0, 0, 0, [], 0), (35, 3, .if_icmp .ge 31, 40, 0, 0, [], 0), (38, 1, .iload_n 3, 0, 0, 0, [], 0), (39, 1, .iload_n 2, 0, 0, 0, [], 0), (40, 2, .iload 4, 0, 0, 0, [], 0), (42, 3, .invokestatic 329, 158, 1, 2, [], 0), (45, 3, .ifCond .eq 12, 35, 0, 0, [], 0), (48, 1, .aload_n 0, 0, 0, 0, [], 0), (49, 2, .iload 4, 0, 0, 0, [], 0), (51, 3, .invokevirtual 323, 215, 0, 2, [12], 0), (54, 3, .goto 4, 36, 0, 0, [], 0), (57, 1, .iconst 0, 0, 0, 0, [], 0), (58, 1, .ior, 0, 0, 0, [], 0), (59, 1, .istore_n 3, 0, 0, 0, [], 0), (60, 3, .iinc 4 1, 0, 0, 0, [], 0), (63, 3, .goto (-36), 20, 0, 0, [], 0), (66, 1, .iload_n 3, 0, 0, 0, [], 0), (67, 1, .iconst 1, 0, 0, 0, [], 0), (68, 1, .aload_n 0, 0, 0, 0, [], 0), (69, 3, .getfield 23, 12, 12, 0, [], 0), (72, 1, .iconst 0, 0, 0, 0, [], 0), (73, 1, .iaload, 0, 0, 0, [], 0), (74, 1, .ishl, 0, 0, 0, [], 0), (75, 1, .iconst 1, 0, 0, 0, [], 0), (76, 1, .isub, 0, 0, 0, [], 0), (77, 3, .if_icmp .ne 18, 57, 0, 0, [], 0), (80, 1, .iload_n 2, 0, 0, 0, [], 0), (81, 3, .invokestatic 342, 224, 1, 1, [], 0), (84, 1, .iload_n 1, 0, 0, 0, [], 0), (85, 3, .invokestatic 342, 224, 1, 1, [], 0), (88, 3, .if_icmp .gt 7, 57, 0, 0, [], 0), (91, 1, .iload_n 2, 0, 0, 0, [], 0), (92, 3, .goto 4, 58, 0, 0, [], 0), (95, 1, .iload_n 1, 0, 0, 0, [], 0), (96, 1, .istore_n 1, 0, 0, 0, [], 0), (97, 3, .iinc 2 (-1), 0, 0, 0, [], 0), (100, 3, .goto (-82), 14, 0, 0, [], 0), (103, 1, .iload_n 1, 0, 0, 0, [], 0), (104, 1, .ireturn, 0, 0, 0, [], 0)]
def mt_238 : ix_M := (⟨"CryGorgeModel", "ears", "()I"⟩, prog_14_method_88_code, 5, (Option.some FieldType.int), 1, 12, mo_238, [])
def mo_239 : List ix_Op := [(0, 1, .iload_n 0, 0, 0, 0, [], 0), (1, 1, .iload_n 1, 0, 0, 0, [], 0), (2, 3, .if_icmp .ge 7, 5, 0, 0, [], 0), (5, 1, .iload_n 0, 0, 0, 0, [], 0), (6, 3, .goto 17, 15, 0, 0, [], 0), (9, 1, .iload_n 0, 0, 0, 0, [], 0), (10, 1, .iload_n 1, 0, 0, 0, [], 0), (11, 3, .if_icmp .le 7, 10, 0, 0, [], 0), (14, 1, .iconst 0, 0, 0, 0, [], 0), (15, 3, .goto 8, 15, 0, 0, [], 0), (18, 1, .iload_n 0, 0, 0, 0, [], 0), (19, 1, .iconst 2, 0, 0, 0, [], 0), (20, 1, .idiv, 0, 0, 0, [], 0), (21, 1, .iload_n 2, 0, 0, 0, [], 0), (22, 1, .iadd, 0, 0, 0, [], 0), (23, 1, .ireturn, 0, 0, 0, [], 0)]
def mt_239 : ix_M := (⟨"CryGorgeModel", "hasBy", "(III)I"⟩, prog_14_method_89_code, 3, (Option.some FieldType.int), 3, 12, mo_239, [])
def mo_240 : List ix_Op := [(0, 1, .iconst 0, 0, 0, 0, [], 0), (1, 2, .istore 4, 0, 0, 0, [], 0), (3, 2, .iload 4, 0, 0, 0, [], 0), (5, 1, .iload_n 2, 0, 0, 0, [], 0), (6, 3, .if_icmp .gt 27, 18, 0, 0, [], 0), (9, 2, .iload 4, 0, 0, 0, [], 0), (11, 1, .iload_n 1, 0, 0, 0, [], 0), (12, 1, .iload_n 3, 0, 0, 0, [], 0), (13, 3, .invokestatic 360, 239, 1, 3, [], 0), (16, 1, .iload_n 0, 0, 0, 0, [], 0), (17, 1, .iload_n 1, 0, 0, 0, [], 0), (18, 1, .iload_n 3, 0, 0, 0, [], 0), (19, 3, .invokestatic 360, 239, 1, 3, [], 0), (22, 3, .if_icmp .le 5, 16, 0, 0, [], 0), (25, 1, .iconst 0, 0, 0, 0, [], 0), (26, 1, .ireturn, 1, 0, 0, [], 0), (27, 3, .iinc 4 1, 0, 0, 0, [], 0), (30, 3, .goto (-27), 2, 0, 0, [], 0), (33, 1, .iconst 1, 0, 0, 0, [], 0), (34, 1, .ireturn, 1, 0, 0, [], 0)]
def mt_240 : ix_M := (⟨"CryGorgeModel", "isBest", "(IIII)Z"⟩, prog_14_method_90_code, 5, (Option.some FieldType.boolean), 4, 12, mo_240, [])
def mo_241 : List ix_Op := [(0, 1, .aload_n 0, 0, 0, 0, [], 0), (1, 1, .iconst 0, 0, 0, 0, [], 0), (2, 3, .putfield 103, 12, 0, 0, [], 0), (5, 1, .aload_n 0, 0, 0, 0, [], 0), (6, 1, .iload_n 1, 0, 0, 0, [], 0), (7, 1, .iconst 0, 0, 0, 0, [], 0), (8, 2, .bipush 9, 0, 0, 0, [], 0), (10, 3, .invokestatic 137, 155, 1, 3, [], 0), (13, 3, .ifCond .eq 22, 19, 0, 0, [], 0), (16, 1, .iload_n 2, 0, 0, 0, [], 0), (17, 1, .iconst 0, 0, 0, 0, [], 0), (18, 2, .bipush 9, 0, 0, 0, [], 0), (20, 3, .invokestatic 137, 155, 1, 3, [], 0), (23, 3, .ifCond .eq 12, 19, 0, 0, [], 0), (26, 1, .iload_n 3, 0, 0, 0, [], 0), (27, 1, .iconst 0, 0, 0, 0, [], 0), (28, 1, .iconst 2, 0, 0, 0, [], 0), (29, 3, .invokestatic 137, 155, 1, 3, [], 0), (32, 3, .ifCond .ne 7, 21, 0, 0, [], 0), (35, 1, .iconst 1, 0, 0, 0, [], 0), (36, 3, .goto 4, 22, 0, 0, [], 0), (39, 1, .iconst 0, 0, 0, 0, [], 0), (40, 1, .iconst 1, 0, 0, 0, [], 0), (41, 1, .iconst 1, 0, 0, 0, [], 0), (42, 3, .invokevirtual 176, 154, 0, 4, [12], 0), (45, 3, .ifCond .eq 5, 28, 0, 0, [], 0), (48, 1, .iconst 0, 0, 0, 0, [], 0), (49, 1, .ireturn, 0, 0, 0, [], 0), (50, 1, .iconst 0, 0, 0, 0, [], 0), (51, 2, .istore 4, 0, 0, 0, [], 0), (53, 1, .iconst (-1), 0, 0, 0, [], 0), (54, 2, .istore 5, 0, 0, 0, [], 0), (56, 1, .iconst 0, 0, 0, 0, [], 0), (57, 2, .istore 6, 0, 0, 0, [], 0), (59, 1, .iconst 0, 0, 0, 0, [], 0), (60, 2, .istore 7, 0, 0, 0, [], 0), (62, 2, .iload 7, 0, 0, 0, [], 0), (64, 1, .iload_n 1, 0, 0, 0, [], 0), (65, 3, .if_icmp .gt 103, 86, 0, 0, [], 0), (68, 1, .iconst 0, 0, 0, 0, [], 0), (69, 2, .istore 8, 0, 0, 0, [], 0), (71, 2, .iload 8, 0, 0, 0, [], 0), (73, 1, .iload_n 1, 0, 0, 0, [], 0), (74, 3, .if_icmp .gt 88, 84, 0, 0, [], 0), (77, 2, .iload 7, 0, 0, 0, [], 0), (79, 2, .iload 8, 0, 0, 0, [], 0), (81, 1, .iload_n 1, 0, 0, 0, [], 0), (82, 1, .iload_n 2, 0, 0, 0, [], 0), (83, 3, .invokestatic 363, 240, 1, 4, [], 0), (86, 3, .ifCond .eq 70, 82, 0, 0, [], 0), (89, 2, .iload 8, 0, 0, 0, [], 0), (91, 2, .iload 7, 0, 0, 0, [], 0), (93, 1, .iload_n 1, 0, 0, 0, [], 0), (94, 1, .iload_n 2, 0, 0, 0, [], 0), (95, 3, .invokestatic 363, 240, 1, 4, [], 0), (98, 3, .ifCond .ne 6, 57, 0, 0, [], 0), (101, 3, .goto 55, 82, 0, 0, [], 0), (104, 2, .iload 4, 0, 0, 0, [], 0), (106, 3, .ifCond .ne 23, 69, 0, 0, [], 0), (109, 2, .iload 7, 0, 0, 0, [], 0), (111, 2, .iload 8, 0, 0, 0, [], 0), (113, 1, .iload_n 2, 0, 0, 0, [], 0), (114, 3, .invokestatic 360, 239, 1, 3, [], 0), (117, 2, .iload 8, 0, 0, 0, [], 0), (119, 2, .iload 7, 0, 0, 0, [], 0), (121, 1, .iload_n 2, 0, 0, 0, [], 0), (122, 3, .invokestatic 360, 239, 1, 3, [], 0), (125, 1, .iadd, 0, 0, 0, [], 0), (126, 3, .goto 5, 70, 0, 0, [], 0), (129, 2, .iload 6, 0, 0, 0, [], 0), (131, 2, .istore 6, 0, 0, 0, [], 0), (133, 2, .iload 4, 0, 0, 0, [], 0), (135, 3, .ifCond .ne 14, 79, 0, 0, [], 0), (138, 2, .bipush 10, 0, 0, 0, [], 0), (140, 2, .iload 7, 0, 0, 0, [], 0), (142, 1, .imul, 0, 0, 0, [], 0), (143, 2, .iload 8, 0, 0, 0, [], 0), (145, 1, .iadd, 0, 0, 0, [], 0), (146, 3, .goto 5, 80, 0, 0, [], 0), (149, 2, .iload 5, 0, 0, 0, [], 0), (151, 2, .istore 5, 0, 0, 0, [], 0), (153, 3, .iinc 4 1, 0, 0, 0, [], 0), (156, 3, .iinc 8 1, 0, 0, 0, [], 0), (159, 3, .goto (-88), 41, 0, 0, [], 0), (162, 3, .iinc 7 1, 0, 0, 0, [], 0), (165, 3, .goto (-103), 36, 0, 0, [], 0), (168, 1, .iload_n 3, 0, 0, 0, [], 0), (169, 3, .ifCond .ne 8, 90, 0, 0, [], 0), (172, 2, .iload 4, 0, 0, 0, [], 0), (174, 3, .goto 15, 96, 0, 0, [], 0), (177, 1, .iload_n 3, 0, 0, 0, [], 0), (178, 1, .iconst 1, 0, 0, 0, [], 0), (179, 3, .if_icmp .ne 8, 95, 0, 0, [], 0), (182, 2, .iload 5, 0, 0, 0, [], 0), (184, 3, .goto 5, 96, 0, 0, [], 0), (187, 2, .iload 6, 0, 0, 0, [], 0), (189, 1, .ireturn, 0, 0, 0, [], 0)]
def mt_241 : ix_M := (⟨"CryGorgeModel", "prices", "(III)I"⟩, prog_14_method_91_code, 9, (Option.some FieldType.int), 4, 12, mo_241, [])
def mo_242 : List ix_Op := [(0, 1, .iconst 0, 0, 0, 0, [], 0), (1, 1, .istore_n 3, 0, 0, 0, [], 0), (2, 1, .iconst 0, 0, 0, 0, [], 0), (3, 2, .istore 4, 0, 0, 0, [], 0), (5, 2, .iload 4, 0, 0, 0, [], 0), (7, 1, .aload_n 0, 0, 0, 0, [], 0), (8, 3, .getfield 23, 12, 12, 0, [], 0), (11, 1, .iconst 1, 0, 0, 0, [], 0), (12, 1, .iaload, 0, 0, 0, [], 0), (13, 3, .if_icmp .ge 39, 29, 0, 0, [], 0), (16, 1, .iload_n 3, 0, 0, 0, [], 0), (17, 1, .iload_n 1, 0, 0, 0, [], 0), (18, 2, .iload 4, 0, 0, 0, [], 0), (20, 3, .invokestatic 329, 158, 1, 2, [], 0), (23, 3, .ifCond .eq 20, 24, 0, 0, [], 0), (26, 1, .iload_n 2, 0, 0, 0, [], 0), (27, 1, .aload_n 0, 0, 0, 0, [], 0), (28, 3, .getfield 70, 12, 30, 0, [], 0), (31, 2, .bipush 8, 0, 0, 0, [], 0), (33, 2, .iload 4, 0, 0, 0, [], 0), (35, 1, .iadd, 0, 0, 0, [], 0), (36, 1, .iaload, 0, 0, 0, [], 0), (37, 3, .invokestatic 211, 156, 1, 2, [], 0), (40, 3, .goto 4, 25, 0, 0, [], 0), (43, 1, .iconst 0, 0, 0, 0, [], 0), (44, 1, .iadd, 0, 0, 0, [], 0), (45, 1, .istore_n 3, 0, 0, 0, [], 0), (46, 3, .iinc 4 1, 0, 0, 0, [], 0), (49, 3, .goto (-44), 4, 0, 0, [], 0), (52, 1, .iload_n 3, 0, 0, 0, [], 0), (53, 1, .ireturn, 0, 0, 0, [], 0)]
def mt_242 : ix_M := (⟨"CryGorgeModel", "givenBy", "(II)I"⟩, prog_14_method_92_code, 5, (Option.some FieldType.int), 3, 12, mo_242, [])
def mo_243 : List ix_Op := [(0, 1, .aload_n 0, 0, 0, 0, [], 0), (1, 1, .iconst 0, 0, 0, 0, [], 0), (2, 3, .putfield 103, 12, 0, 0, [], 0), (5, 1, .aload_n 0, 0, 0, 0, [], 0), (6, 1, .aload_n 0, 0, 0, 0, [], 0), (7, 1, .iload_n 1, 0, 0, 0, [], 0), (8, 3, .invokevirtual 326, 213, 0, 2, [12], 0), (11, 3, .ifCond .ne 7, 10, 0, 0, [], 0), (14, 1, .iconst 1, 0, 0, 0, [], 0), (15, 3, .goto 4, 11, 0, 0, [], 0), (18, 1, .iconst 0, 0, 0, 0, [], 0), (19, 1, .iconst 1, 0, 0, 0, [], 0), (20, 1, .iconst 0, 0, 0, 0, [], 0), (21, 3, .invokevirtual 176, 154, 0, 4, [12], 0), (24, 3, .ifCond .ne 36, 32, 0, 0, [], 0), (27, 1, .aload_n 0, 0, 0, 0, [], 0), (28, 1, .aload_n 0, 0, 0, 0, [], 0), (29, 1, .iload_n 2, 0, 0, 0, [], 0), (30, 3, .invokevirtual 339, 214, 0, 2, [12], 0), (33, 3, .ifCond .eq 14, 25, 0, 0, [], 0), (36, 1, .iload_n 3, 0, 0, 0, [], 0), (37, 1, .iconst 0, 0, 0, 0, [], 0), (38, 3, .sipush 999, 0, 0, 0, [], 0), (41, 3, .invokestatic 137, 155, 1, 3, [], 0), (44, 3, .ifCond .ne 7, 27, 0, 0, [], 0), (47, 1, .iconst 1, 0, 0, 0, [], 0), (48, 3, .goto 4, 28, 0, 0, [], 0), (51, 1, .iconst 0, 0, 0, 0, [], 0), (52, 1, .iconst 2, 0, 0, 0, [], 0), (53, 1, .iconst 1, 0, 0, 0, [], 0), (54, 3, .invokevirtual 176, 154, 0, 4, [12], 0), (57, 3, .ifCond .eq 5, 34, 0, 0, [], 0), (60, 1, .iconst 0, 0, 0, 0, [], 0), (61, 1, .ireturn, 0, 0, 0, [], 0), (62, 1, .iconst 0, 0, 0, 0, [], 0), (63, 2, .istore 4, 0, 0, 0, [], 0), (65, 2, .iload 4, 0, 0, 0, [], 0), (67, 2, .bipush 99, 0, 0, 0, [], 0), (69, 3, .if_icmp .ge 22, 49, 0, 0, [], 0), (72, 1, .aload_n 0, 0, 0, 0, [], 0), (73, 1, .iload_n 2, 0, 0, 0, [], 0), (74, 2, .iload 4, 0, 0, 0, [], 0), (76, 1, .iconst 1, 0, 0, 0, [], 0), (77, 1, .iadd, 0, 0, 0, [], 0), (78, 3, .invokevirtual 367, 242, 0, 3, [12], 0), (81, 1, .iload_n 3, 0, 0, 0, [], 0), (82, 3, .if_icmp .gt 9, 49, 0, 0, [], 0), (85, 3, .iinc 4 1, 0, 0, 0, [], 0), (88, 3, .goto (-23), 36, 0, 0, [], 0), (91, 1, .iload_n 2, 0, 0, 0, [], 0), (92, 1, .iload_n 1, 0, 0, 0, [], 0), (93, 3, .invokestatic 329, 158, 1, 2, [], 0), (96, 3, .ifCond .eq 20, 62, 0, 0, [], 0), (99, 2, .iload 4, 0, 0, 0, [], 0), (101, 1, .aload_n 0, 0, 0, 0, [], 0), (102, 3, .getfield 70, 12, 30, 0, [], 0), (105, 2, .bipush 8, 0, 0, 0, [], 0), (107, 1, .iload_n 1, 0, 0, 0, [], 0), (108, 1, .iadd, 0, 0, 0, [], 0), (109, 1, .iaload, 0, 0, 0, [], 0), (110, 3, .invokestatic 211, 156, 1, 2, [], 0), (113, 3, .goto 4, 63, 0, 0, [], 0), (116, 1, .iconst 0, 0, 0, 0, [], 0), (117, 1, .ireturn, 0, 0, 0, [], 0)]
def mt_243 : ix_M := (⟨"CryGorgeModel", "share", "(III)I"⟩, prog_14_method_93_code, 5, (Option.some FieldType.int), 4, 12, mo_243, [])
def mo_244 : List ix_Op := [(0, 1, .aload_n 0, 0, 0, 0, [], 0), (1, 1, .iconst 0, 0, 0, 0, [], 0), (2, 3, .putfield 103, 12, 0, 0, [], 0), (5, 1, .aload_n 0, 0, 0, 0, [], 0), (6, 1, .iload_n 1, 0, 0, 0, [], 0), (7, 1, .iconst 0, 0, 0, 0, [], 0), (8, 1, .iconst 1, 0, 0, 0, [], 0), (9, 3, .invokestatic 137, 155, 1, 3, [], 0), (12, 3, .ifCond .ne 7, 11, 0, 0, [], 0), (15, 1, .iconst 1, 0, 0, 0, [], 0), (16, 3, .goto 4, 12, 0, 0, [], 0), (19, 1, .iconst 0, 0, 0, 0, [], 0), (20, 1, .iconst 1, 0, 0, 0, [], 0), (21, 1, .iconst 1, 0, 0, 0, [], 0), (22, 3, .invokevirtual 176, 154, 0, 4, [12], 0), (25, 3, .ifCond .eq 5, 18, 0, 0, [], 0), (28, 1, .iconst 0, 0, 0, 0, [], 0), (29, 1, .ireturn, 0, 0, 0, [], 0), (30, 1, .iconst (-1), 0, 0, 0, [], 0), (31, 1, .istore_n 2, 0, 0, 0, [], 0), (32, 1, .iconst (-1), 0, 0, 0, [], 0), (33, 1, .istore_n 3, 0, 0, 0, [], 0), (34, 1, .iconst 0, 0, 0, 0, [], 0), (35, 2, .istore 4, 0, 0, 0, [], 0), (37, 2, .iload 4, 0, 0, 0, [], 0), (39, 1, .aload_n 0, 0, 0, 0, [], 0), (40, 3, .getfield 23, 12, 12, 0, [], 0), (43, 1, .iconst 1, 0, 0, 0, [], 0), (44, 1, .iaload, 0, 0, 0, [], 0), (45, 3, .if_icmp .ge 54, 58, 0, 0, [], 0), (48, 1, .aload_n 0, 0, 0, 0, [], 0), (49, 3, .getfield 70, 12, 30, 0, [], 0), (52, 1, .iconst 0, 0, 0, 0, [], 0), (53, 2, .iload 4, 0, 0, 0, [], 0), (55, 1, .iadd, 0, 0, 0, [], 0), (56, 1, .iaload, 0, 0, 0, [], 0), (57, 2, .bipush (-2), 0, 0, 0, [], 0), (59, 3, .if_icmp .eq 34, 56, 0, 0, [], 0), (62, 1, .aload_n 0, 0, 0, 0, [], 0), (63, 3, .getfield 70, 12, 30, 0, [], 0), (66, 2, .bipush 8, 0, 0, 0, [], 0), (68, 2, .iload 4, 0, 0, 0, [], 0), (70, 1, .iadd, 0, 0, 0, [], 0), (71, 1, .iaload, 0, 0, 0, [], 0), (72, 1, .iload_n 3, 0, 0, 0, [], 0), (73, 3, .if_icmp .gt 6, 47, 0, 0, [], 0), (76, 3, .goto 17, 56, 0, 0, [], 0), (79, 2, .iload 4, 0, 0, 0, [], 0), (81, 1, .istore_n 2, 0, 0, 0, [], 0), (82, 1, .aload_n 0, 0, 0, 0, [], 0), (83, 3, .getfield 70, 12, 30, 0, [], 0), (86, 2, .bipush 8, 0, 0, 0, [], 0), (88, 2, .iload 4, 0, 0, 0, [], 0), (90, 1, .iadd, 0, 0, 0, [], 0), (91, 1, .iaload, 0, 0, 0, [], 0), (92, 1, .istore_n 3, 0, 0, 0, [], 0), (93, 3, .iinc 4 1, 0, 0, 0, [], 0), (96, 3, .goto (-59), 24, 0, 0, [], 0), (99, 1, .iload_n 1, 0, 0, 0, [], 0), (100, 3, .ifCond .ne 7, 62, 0, 0, [], 0), (103, 1, .iload_n 2, 0, 0, 0, [], 0), (104, 3, .goto 4, 63, 0, 0, [], 0), (107, 1, .iload_n 3, 0, 0, 0, [], 0), (108, 1, .ireturn, 0, 0, 0, [], 0)]
def mt_244 : ix_M := (⟨"CryGorgeModel", "loudest", "(I)I"⟩, prog_14_method_94_code, 5, (Option.some FieldType.int), 2, 12, mo_244, [])
def mo_245 : List ix_Op := [(0, 1, .aload_n 0, 0, 0, 0, [], 0), (1, 1, .iconst 0, 0, 0, 0, [], 0), (2, 3, .putfield 103, 12, 0, 0, [], 0), (5, 1, .aload_n 0, 0, 0, 0, [], 0), (6, 1, .aload_n 0, 0, 0, 0, [], 0), (7, 1, .iload_n 1, 0, 0, 0, [], 0), (8, 3, .invokevirtual 326, 213, 0, 2, [12], 0), (11, 3, .ifCond .ne 7, 10, 0, 0, [], 0), (14, 1, .iconst 1, 0, 0, 0, [], 0), (15, 3, .goto 4, 11, 0, 0, [], 0), (18, 1, .iconst 0, 0, 0, 0, [], 0), (19, 1, .iconst 1, 0, 0, 0, [], 0), (20, 1, .iconst 0, 0, 0, 0, [], 0), (21, 3, .invokevirtual 176, 154, 0, 4, [12], 0), (24, 3, .ifCond .ne 26, 28, 0, 0, [], 0), (27, 1, .aload_n 0, 0, 0, 0, [], 0), (28, 1, .iload_n 2, 0, 0, 0, [], 0), (29, 1, .iconst 0, 0, 0, 0, [], 0), (30, 1, .iconst 1, 0, 0, 0, [], 0), (31, 3, .invokestatic 137, 155, 1, 3, [], 0), (34, 3, .ifCond .ne 7, 23, 0, 0, [], 0), (37, 1, .iconst 1, 0, 0, 0, [], 0), (38, 3, .goto 4, 24, 0, 0, [], 0), (41, 1, .iconst 0, 0, 0, 0, [], 0), (42, 1, .iconst 2, 0, 0, 0, [], 0), (43, 1, .iconst 1, 0, 0, 0, [], 0), (44, 3, .invokevirtual 176, 154, 0, 4, [12], 0), (47, 3, .ifCond .eq 5, 30, 0, 0, [], 0), (50, 1, .iconst 0, 0, 0, 0, [], 0), (51, 1, .ireturn, 0, 0, 0, [], 0), (52, 1, .iconst (-1), 0, 0, 0, [], 0), (53, 1, .istore_n 3, 0, 0, 0, [], 0), (54, 1, .iconst (-1), 0, 0, 0, [], 0), (55, 2, .istore 4, 0, 0, 0, [], 0), (57, 1, .iconst 0, 0, 0, 0, [], 0), (58, 2, .istore 5, 0, 0, 0, [], 0), (60, 2, .iload 5, 0, 0, 0, [], 0), (62, 1, .aload_n 0, 0, 0, 0, [], 0), (63, 3, .getfield 23, 12, 12, 0, [], 0), (66, 1, .iconst 0, 0, 0, 0, [], 0), (67, 1, .iaload, 0, 0, 0, [], 0), (68, 3, .if_icmp .ge 70, 79, 0, 0, [], 0), (71, 1, .aload_n 0, 0, 0, 0, [], 0), (72, 1, .aload_n 0, 0, 0, 0, [], 0), (73, 3, .getfield 70, 12, 30, 0, [], 0), (76, 1, .iload_n 1, 0, 0, 0, [], 0), (77, 2, .iload 5, 0, 0, 0, [], 0), (79, 1, .iconst 0, 0, 0, 0, [], 0), (80, 1, .aload_n 0, 0, 0, 0, [], 0), (81, 3, .getfield 70, 12, 30, 0, [], 0), (84, 2, .bipush 8, 0, 0, 0, [], 0), (86, 1, .iload_n 1, 0, 0, 0, [], 0), (87, 1, .iadd, 0, 0, 0, [], 0), (88, 1, .iaload, 0, 0, 0, [], 0), (89, 1, .aload_n 0, 0, 0, 0, [], 0), (90, 3, .getfield 70, 12, 30, 0, [], 0), (93, 2, .bipush 16, 0, 0, 0, [], 0), (95, 1, .iload_n 1, 0, 0, 0, [], 0), (96, 1, .iadd, 0, 0, 0, [], 0), (97, 1, .iaload, 0, 0, 0, [], 0), (98, 1, .aload_n 0, 0, 0, 0, [], 0), (99, 3, .getfield 70, 12, 30, 0, [], 0), (102, 2, .bipush 31, 0, 0, 0, [], 0), (104, 1, .iaload, 0, 0, 0, [], 0), (105, 3, .invokevirtual 272, 199, 0, 8, [12], 0), (108, 2, .istore 6, 0, 0, 0, [], 0), (110, 1, .iload_n 3, 0, 0, 0, [], 0), (111, 1, .iconst (-1), 0, 0, 0, [], 0), (112, 3, .if_icmp .eq 13, 73, 0, 0, [], 0), (115, 2, .iload 6, 0, 0, 0, [], 0), (117, 2, .iload 4, 0, 0, 0, [], 0), (119, 3, .if_icmp .lt 6, 73, 0, 0, [], 0), (122, 3, .goto 10, 77, 0, 0, [], 0), (125, 2, .iload 5, 0, 0, 0, [], 0), (127, 1, .istore_n 3, 0, 0, 0, [], 0), (128, 2, .iload 6, 0, 0, 0, [], 0), (130, 2, .istore 4, 0, 0, 0, [], 0), (132, 3, .iinc 5 1, 0, 0, 0, [], 0), (135, 3, .goto (-75), 36, 0, 0, [], 0), (138, 1, .iload_n 2, 0, 0, 0, [], 0), (139, 3, .ifCond .ne 7, 83, 0, 0, [], 0), (142, 1, .iload_n 3, 0, 0, 0, [], 0), (143, 3, .goto 5, 84, 0, 0, [], 0), (146, 2, .iload 4, 0, 0, 0, [], 0), (148, 1, .ireturn, 0, 0, 0, [], 0)]
def mt_245 : ix_M := (⟨"CryGorgeModel", "kindest", "(II)I"⟩, prog_14_method_95_code, 7, (Option.some FieldType.int), 3, 12, mo_245, [])
def mo_246 : List ix_Op := [(0, 1, .aload_n 0, 0, 0, 0, [], 0), (1, 1, .iconst 0, 0, 0, 0, [], 0), (2, 3, .putfield 103, 12, 0, 0, [], 0), (5, 1, .iconst 0, 0, 0, 0, [], 0), (6, 1, .istore_n 1, 0, 0, 0, [], 0), (7, 1, .iconst 0, 0, 0, 0, [], 0), (8, 1, .istore_n 2, 0, 0, 0, [], 0), (9, 1, .iload_n 2, 0, 0, 0, [], 0), (10, 1, .aload_n 0, 0, 0, 0, [], 0), (11, 3, .getfield 23, 12, 12, 0, [], 0), (14, 1, .iconst 1, 0, 0, 0, [], 0), (15, 1, .iaload, 0, 0, 0, [], 0), (16, 3, .if_icmp .ge 31, 29, 0, 0, [], 0), (19, 1, .iload_n 1, 0, 0, 0, [], 0), (20, 1, .aload_n 0, 0, 0, 0, [], 0), (21, 1, .aload_n 0, 0, 0, 0, [], 0), (22, 3, .getfield 70, 12, 30, 0, [], 0), (25, 1, .iload_n 2, 0, 0, 0, [], 0), (26, 3, .invokevirtual 289, 204, 0, 3, [12], 0), (29, 3, .ifCond .eq 9, 24, 0, 0, [], 0), (32, 1, .iconst 1, 0, 0, 0, [], 0), (33, 1, .iload_n 2, 0, 0, 0, [], 0), (34, 1, .ishl, 0, 0, 0, [], 0), (35, 3, .goto 4, 25, 0, 0, [], 0), (38, 1, .iconst 0, 0, 0, 0, [], 0), (39, 1, .ior, 0, 0, 0, [], 0), (40, 1, .istore_n 1, 0, 0, 0, [], 0), (41, 3, .iinc 2 1, 0, 0, 0, [], 0), (44, 3, .goto (-35), 7, 0, 0, [], 0), (47, 1, .iload_n 1, 0, 0, 0, [], 0), (48, 1, .ireturn, 0, 0, 0, [], 0)]
def mt_246 : ix_M := (⟨"CryGorgeModel", "grown", "()I"⟩, prog_14_method_96_code, 3, (Option.some FieldType.int), 1, 12, mo_246, [])
def mo_247 : List ix_Op := [(0, 1, .aload_n 0, 0, 0, 0, [], 0), (1, 1, .iconst 0, 0, 0, 0, [], 0), (2, 3, .putfield 103, 12, 0, 0, [], 0), (5, 1, .iconst 0, 0, 0, 0, [], 0), (6, 1, .istore_n 1, 0, 0, 0, [], 0), (7, 1, .iconst 0, 0, 0, 0, [], 0), (8, 1, .istore_n 2, 0, 0, 0, [], 0), (9, 1, .iload_n 2, 0, 0, 0, [], 0), (10, 1, .aload_n 0, 0, 0, 0, [], 0), (11, 3, .getfield 23, 12, 12, 0, [], 0), (14, 1, .iconst 0, 0, 0, 0, [], 0), (15, 1, .iaload, 0, 0, 0, [], 0), (16, 3, .if_icmp .ge 30, 30, 0, 0, [], 0), (19, 1, .iload_n 1, 0, 0, 0, [], 0), (20, 1, .aload_n 0, 0, 0, 0, [], 0), (21, 3, .getfield 31, 12, 14, 0, [], 0), (24, 1, .iload_n 2, 0, 0, 0, [], 0), (25, 1, .aaload, 0, 0, 0, [], 0), (26, 1, .iconst 1, 0, 0, 0, [], 0), (27, 1, .iaload, 0, 0, 0, [], 0), (28, 1, .aload_n 0, 0, 0, 0, [], 0), (29, 1, .aload_n 0, 0, 0, 0, [], 0), (30, 3, .getfield 70, 12, 30, 0, [], 0), (33, 1, .iload_n 2, 0, 0, 0, [], 0), (34, 3, .invokevirtual 279, 197, 0, 3, [12], 0), (37, 1, .isub, 0, 0, 0, [], 0), (38, 1, .iadd, 0, 0, 0, [], 0), (39, 1, .istore_n 1, 0, 0, 0, [], 0), (40, 3, .iinc 2 1, 0, 0, 0, [], 0), (43, 3, .goto (-34), 7, 0, 0, [], 0), (46, 1, .iload_n 1, 0, 0, 0, [], 0), (47, 1, .ireturn, 0, 0, 0, [], 0)]
def mt_247 : ix_M := (⟨"CryGorgeModel", "room", "()I"⟩, prog_14_method_97_code, 3, (Option.some FieldType.int), 1, 12, mo_247, [])
def mo_248 : List ix_Op := [(0, 1, .aload_n 0, 0, 0, 0, [], 0), (1, 1, .aload_n 0, 0, 0, 0, [], 0), (2, 3, .getfield 370, 12, 47, 0, [], 0), (5, 3, .ldc_w 373, 0, 0, 0, [], 1103515245), (8, 1, .imul, 0, 0, 0, [], 0), (9, 3, .sipush 12345, 0, 0, 0, [], 0), (12, 1, .iadd, 0, 0, 0, [], 0), (13, 3, .putfield 370, 12, 47, 0, [], 0), (16, 1, .aload_n 0, 0, 0, 0, [], 0), (17, 3, .getfield 370, 12, 47, 0, [], 0), (20, 2, .bipush 16, 0, 0, 0, [], 0), (22, 1, .ishr, 0, 0, 0, [], 0), (23, 3, .sipush 32767, 0, 0, 0, [], 0), (26, 1, .iand, 0, 0, 0, [], 0), (27, 1, .iload_n 1, 0, 0, 0, [], 0), (28, 1, .irem, 0, 0, 0, [], 0), (29, 1, .ireturn, 0, 0, 0, [], 0)]
def mt_248 : ix_M := (⟨"CryGorgeModel", "draw", "(I)I"⟩, prog_14_method_98_code, 2, (Option.some FieldType.int), 2, 12, mo_248, [])
def mo_249 : List ix_Op := [(0, 1, .aload_n 0, 0, 0, 0, [], 0), (1, 3, .getfield 70, 12, 30, 0, [], 0), (4, 1, .aload_n 0, 0, 0, 0, [], 0), (5, 3, .getfield 73, 12, 31, 0, [], 0), (8, 3, .invokestatic 309, 179, 1, 2, [], 0), (11, 1, .aload_n 0, 0, 0, 0, [], 0), (12, 1, .iload_n 1, 0, 0, 0, [], 0), (13, 3, .putfield 370, 12, 47, 0, [], 0), (16, 1, .aload_n 0, 0, 0, 0, [], 0), (17, 1, .iconst 0, 0, 0, 0, [], 0), (18, 3, .putfield 374, 12, 48, 0, [], 0), (21, 1, .aload_n 0, 0, 0, 0, [], 0), (22, 1, .iconst 0, 0, 0, 0, [], 0), (23, 3, .putfield 377, 12, 49, 0, [], 0), (26, 1, .iconst 0, 0, 0, 0, [], 0), (27, 2, .istore 5, 0, 0, 0, [], 0), (29, 2, .iload 5, 0, 0, 0, [], 0), (31, 1, .iload_n 2, 0, 0, 0, [], 0), (32, 3, .if_icmp .ge 124, 81, 0, 0, [], 0), (35, 1, .aload_n 0, 0, 0, 0, [], 0), (36, 2, .bipush 16, 0, 0, 0, [], 0), (38, 3, .invokevirtual 380, 248, 0, 2, [12], 0), (41, 1, .iload_n 3, 0, 0, 0, [], 0), (42, 3, .if_icmp .ge 46, 47, 0, 0, [], 0), (45, 1, .aload_n 0, 0, 0, 0, [], 0), (46, 3, .getfield 23, 12, 12, 0, [], 0), (49, 1, .iconst 1, 0, 0, 0, [], 0), (50, 1, .iaload, 0, 0, 0, [], 0), (51, 3, .ifCond .le 37, 47, 0, 0, [], 0), (54, 1, .aload_n 0, 0, 0, 0, [], 0), (55, 1, .dup, 0, 0, 0, [], 0), (56, 3, .getfield 374, 12, 48, 0, [], 0), (59, 1, .aload_n 0, 0, 0, 0, [], 0), (60, 3, .getfield 73, 12, 31, 0, [], 0), (63, 1, .aload_n 0, 0, 0, 0, [], 0), (64, 1, .aload_n 0, 0, 0, 0, [], 0), (65, 3, .getfield 23, 12, 12, 0, [], 0), (68, 1, .iconst 1, 0, 0, 0, [], 0), (69, 1, .iaload, 0, 0, 0, [], 0), (70, 3, .invokevirtual 380, 248, 0, 2, [12], 0), (73, 3, .invokestatic 286, 203, 1, 2, [], 0), (76, 3, .ifCond .eq 7, 44, 0, 0, [], 0), (79, 1, .iconst 1, 0, 0, 0, [], 0), (80, 3, .goto 4, 45, 0, 0, [], 0), (83, 1, .iconst 0, 0, 0, 0, [], 0), (84, 1, .iadd, 0, 0, 0, [], 0), (85, 3, .putfield 374, 12, 48, 0, [], 0), (88, 1, .aload_n 0, 0, 0, 0, [], 0), (89, 2, .bipush 16, 0, 0, 0, [], 0), (91, 3, .invokevirtual 380, 248, 0, 2, [12], 0), (94, 2, .iload 4, 0, 0, 0, [], 0), (96, 3, .if_icmp .ge 46, 75, 0, 0, [], 0), (99, 1, .aload_n 0, 0, 0, 0, [], 0), (100, 3, .getfield 23, 12, 12, 0, [], 0), (103, 1, .iconst 0, 0, 0, 0, [], 0), (104, 1, .iaload, 0, 0, 0, [], 0), (105, 3, .ifCond .le 37, 75, 0, 0, [], 0), (108, 1, .aload_n 0, 0, 0, 0, [], 0), (109, 1, .dup, 0, 0, 0, [], 0), (110, 3, .getfield 377, 12, 49, 0, [], 0), (113, 1, .aload_n 0, 0, 0, 0, [], 0), (114, 3, .getfield 73, 12, 31, 0, [], 0), (117, 1, .aload_n 0, 0, 0, 0, [], 0), (118, 1, .aload_n 0, 0, 0, 0, [], 0), (119, 3, .getfield 23, 12, 12, 0, [], 0), (122, 1, .iconst 0, 0, 0, 0, [], 0), (123, 1, .iaload, 0, 0, 0, [], 0), (124, 3, .invokevirtual 380, 248, 0, 2, [12], 0), (127, 3, .invokestatic 282, 202, 1, 2, [], 0), (130, 3, .ifCond .eq 7, 72, 0, 0, [], 0), (133, 1, .iconst 1, 0, 0, 0, [], 0), (134, 3, .goto 4, 73, 0, 0, [], 0), (137, 1, .iconst 0, 0, 0, 0, [], 0), (138, 1, .iadd, 0, 0, 0, [], 0), (139, 3, .putfield 377, 12, 49, 0, [], 0), (142, 1, .aload_n 0, 0, 0, 0, [], 0), (143, 1, .aload_n 0, 0, 0, 0, [], 0), (144, 3, .getfield 73, 12, 31, 0, [], 0), (147, 3, .invokevirtual 292, 201, 0, 2, [12], 0), (150, 3, .iinc 5 1, 0, 0, 0, [], 0), (153, 3, .goto (-124), 16, 0, 0, [], 0), (156, 1, .return_, 0, 0, 0, [], 0)]
def mt_249 : ix_M := (⟨"CryGorgeModel", "centuryBy", "(IIII)V"⟩, prog_14_method_99_code, 6, (Option.none : Option FieldType), 5, 12, mo_249, [])
def mo_250 : List ix_Op := [(0, 1, .iload_n 0, 0, 0, 0, [], 0), (1, 1, .iconst 1, 0, 0, 0, [], 0), (2, 2, .bipush 96, 0, 0, 0, [], 0), (4, 3, .invokestatic 137, 155, 1, 3, [], 0), (7, 3, .ifCond .eq 27, 17, 0, 0, [], 0), (10, 1, .iload_n 1, 0, 0, 0, [], 0), (11, 1, .iconst 0, 0, 0, 0, [], 0), (12, 2, .bipush 16, 0, 0, 0, [], 0), (14, 3, .invokestatic 137, 155, 1, 3, [], 0), (17, 3, .ifCond .eq 17, 17, 0, 0, [], 0), (20, 1, .iload_n 2, 0, 0, 0, [], 0), (21, 1, .iconst 0, 0, 0, 0, [], 0), (22, 2, .bipush 16, 0, 0, 0, [], 0), (24, 3, .invokestatic 137, 155, 1, 3, [], 0), (27, 3, .ifCond .eq 7, 17, 0, 0, [], 0), (30, 1, .iconst 1, 0, 0, 0, [], 0), (31, 3, .goto 4, 18, 0, 0, [], 0), (34, 1, .iconst 0, 0, 0, 0, [], 0), (35, 1, .ireturn, 1, 0, 0, [], 0)]
def mt_250 : ix_M := (⟨"CryGorgeModel", "isCentury", "(III)Z"⟩, prog_14_method_100_code, 3, (Option.some FieldType.boolean), 3, 12, mo_250, [])
def mo_251 : List ix_Op := [(0, 1, .aload_n 0, 0, 0, 0, [], 0), (1, 1, .iconst 0, 0, 0, 0, [], 0), (2, 3, .putfield 103, 12, 0, 0, [], 0), (5, 1, .aload_n 0, 0, 0, 0, [], 0), (6, 1, .iload_n 2, 0, 0, 0, [], 0), (7, 1, .iload_n 3, 0, 0, 0, [], 0), (8, 2, .iload 4, 0, 0, 0, [], 0), (10, 3, .invokestatic 383, 250, 1, 3, [], 0), (13, 3, .ifCond .eq 13, 14, 0, 0, [], 0), (16, 2, .iload 5, 0, 0, 0, [], 0), (18, 1, .iconst 0, 0, 0, 0, [], 0), (19, 1, .iconst 3, 0, 0, 0, [], 0), (20, 3, .invokestatic 137, 155, 1, 3, [], 0), (23, 3, .ifCond .ne 7, 16, 0, 0, [], 0), (26, 1, .iconst 1, 0, 0, 0, [], 0), (27, 3, .goto 4, 17, 0, 0, [], 0), (30, 1, .iconst 0, 0, 0, 0, [], 0), (31, 1, .iconst 1, 0, 0, 0, [], 0), (32, 1, .iconst 1, 0, 0, 0, [], 0), (33, 3, .invokevirtual 176, 154, 0, 4, [12], 0), (36, 3, .ifCond .eq 5, 23, 0, 0, [], 0), (39, 1, .iconst 0, 0, 0, 0, [], 0), (40, 1, .ireturn, 0, 0, 0, [], 0), (41, 1, .aload_n 0, 0, 0, 0, [], 0), (42, 1, .iload_n 1, 0, 0, 0, [], 0), (43, 1, .iload_n 2, 0, 0, 0, [], 0), (44, 1, .iload_n 3, 0, 0, 0, [], 0), (45, 2, .iload 4, 0, 0, 0, [], 0), (47, 3, .invokevirtual 386, 249, 0, 5, [12], 0), (50, 2, .iload 5, 0, 0, 0, [], 0), (52, 28, .tableswitch 51 0 2 #[28, 37, 46], 44, 0, 0, [31, 36, 41], 0), (80, 1, .aload_n 0, 0, 0, 0, [], 0), (81, 1, .aload_n 0, 0, 0, 0, [], 0), (82, 3, .getfield 73, 12, 31, 0, [], 0), (85, 3, .invokevirtual 317, 209, 0, 2, [12], 0), (88, 1, .ireturn, 0, 0, 0, [], 0), (89, 1, .aload_n 0, 0, 0, 0, [], 0), (90, 1, .aload_n 0, 0, 0, 0, [], 0), (91, 3, .getfield 73, 12, 31, 0, [], 0), (94, 3, .invokevirtual 313, 210, 0, 2, [12], 0), (97, 1, .ireturn, 0, 0, 0, [], 0), (98, 1, .aload_n 0, 0, 0, 0, [], 0), (99, 3, .getfield 374, 12, 48, 0, [], 0), (102, 1, .ireturn, 0, 0, 0, [], 0), (103, 1, .aload_n 0, 0, 0, 0, [], 0), (104, 3, .getfield 377, 12, 49, 0, [], 0), (107, 1, .ireturn, 0, 0, 0, [], 0)]
def mt_251 : ix_M := (⟨"CryGorgeModel", "century", "(IIIII)I"⟩, prog_14_method_101_code, 6, (Option.some FieldType.int), 6, 12, mo_251, [])
def mo_252 : List ix_Op := [(0, 1, .aload_n 0, 0, 0, 0, [], 0), (1, 1, .iconst 0, 0, 0, 0, [], 0), (2, 3, .putfield 103, 12, 0, 0, [], 0), (5, 1, .aload_n 0, 0, 0, 0, [], 0), (6, 1, .iload_n 2, 0, 0, 0, [], 0), (7, 1, .iconst 1, 0, 0, 0, [], 0), (8, 2, .bipush 20, 0, 0, 0, [], 0), (10, 3, .invokestatic 137, 155, 1, 3, [], 0), (13, 3, .ifCond .eq 33, 23, 0, 0, [], 0), (16, 1, .iload_n 3, 0, 0, 0, [], 0), (17, 2, .iload 4, 0, 0, 0, [], 0), (19, 2, .iload 5, 0, 0, 0, [], 0), (21, 3, .invokestatic 383, 250, 1, 3, [], 0), (24, 3, .ifCond .eq 22, 23, 0, 0, [], 0), (27, 2, .iload 6, 0, 0, 0, [], 0), (29, 1, .iconst 0, 0, 0, 0, [], 0), (30, 1, .iconst 2, 0, 0, 0, [], 0), (31, 3, .invokestatic 137, 155, 1, 3, [], 0), (34, 3, .ifCond .eq 12, 23, 0, 0, [], 0), (37, 1, .aload_n 0, 0, 0, 0, [], 0), (38, 2, .iload 7, 0, 0, 0, [], 0), (40, 3, .invokevirtual 326, 213, 0, 2, [12], 0), (43, 3, .ifCond .ne 7, 25, 0, 0, [], 0), (46, 1, .iconst 1, 0, 0, 0, [], 0), (47, 3, .goto 4, 26, 0, 0, [], 0), (50, 1, .iconst 0, 0, 0, 0, [], 0), (51, 1, .iconst 1, 0, 0, 0, [], 0), (52, 1, .iconst 1, 0, 0, 0, [], 0), (53, 3, .invokevirtual 176, 154, 0, 4, [12], 0), (56, 3, .ifCond .eq 5, 32, 0, 0, [], 0), (59, 1, .iconst 0, 0, 0, 0, [], 0), (60, 1, .ireturn, 0, 0, 0, [], 0), (61, 1, .iconst (-1), 0, 0, 0, [], 0), (62, 2, .istore 8, 0, 0, 0, [], 0), (64, 1, .iconst 0, 0, 0, 0, [], 0), (65, 2, .istore 9, 0, 0, 0, [], 0), (67, 1, .iconst 0, 0, 0, 0, [], 0), (68, 2, .istore 10, 0, 0, 0, [], 0), (70, 1, .iconst 0, 0, 0, 0, [], 0), (71, 2, .istore 11, 0, 0, 0, [], 0), (73, 2, .iload 11, 0, 0, 0, [], 0), (75, 1, .iload_n 2, 0, 0, 0, [], 0), (76, 3, .if_icmp .ge 84, 84, 0, 0, [], 0), (79, 1, .aload_n 0, 0, 0, 0, [], 0), (80, 1, .iload_n 1, 0, 0, 0, [], 0), (81, 2, .iload 11, 0, 0, 0, [], 0), (83, 1, .iadd, 0, 0, 0, [], 0), (84, 1, .iload_n 3, 0, 0, 0, [], 0), (85, 2, .iload 4, 0, 0, 0, [], 0), (87, 2, .iload 5, 0, 0, 0, [], 0), (89, 3, .invokevirtual 386, 249, 0, 5, [12], 0), (92, 1, .aload_n 0, 0, 0, 0, [], 0), (93, 1, .aload_n 0, 0, 0, 0, [], 0), (94, 3, .getfield 73, 12, 31, 0, [], 0), (97, 3, .invokevirtual 317, 209, 0, 2, [12], 0), (100, 2, .istore 12, 0, 0, 0, [], 0), (102, 2, .iload 8, 0, 0, 0, [], 0), (104, 1, .iconst (-1), 0, 0, 0, [], 0), (105, 3, .if_icmp .ne 8, 61, 0, 0, [], 0), (108, 2, .iload 12, 0, 0, 0, [], 0), (110, 3, .goto 10, 64, 0, 0, [], 0), (113, 2, .iload 8, 0, 0, 0, [], 0), (115, 2, .iload 12, 0, 0, 0, [], 0), (117, 3, .invokestatic 211, 156, 1, 2, [], 0), (120, 2, .istore 8, 0, 0, 0, [], 0), (122, 2, .iload 9, 0, 0, 0, [], 0), (124, 2, .iload 12, 0, 0, 0, [], 0), (126, 3, .invokestatic 245, 157, 1, 2, [], 0), (129, 2, .istore 9, 0, 0, 0, [], 0), (131, 2, .iload 10, 0, 0, 0, [], 0), (133, 1, .aload_n 0, 0, 0, 0, [], 0), (134, 3, .getfield 73, 12, 31, 0, [], 0), (137, 2, .bipush 8, 0, 0, 0, [], 0), (139, 2, .iload 7, 0, 0, 0, [], 0), (141, 1, .iadd, 0, 0, 0, [], 0), (142, 1, .iaload, 0, 0, 0, [], 0), (143, 3, .ifCond .ne 7, 79, 0, 0, [], 0), (146, 1, .iconst 0, 0, 0, 0, [], 0), (147, 3, .goto 4, 80, 0, 0, [], 0), (150, 1, .iconst 1, 0, 0, 0, [], 0), (151, 1, .iadd, 0, 0, 0, [], 0), (152, 2, .istore 10, 0, 0, 0, [], 0), (154, 3, .iinc 11 1, 0, 0, 0, [], 0), (157, 3, .goto (-84), 40, 0, 0, [], 0), (160, 2, .iload 6, 0, 0, 0, [], 0), (162, 3, .ifCond .ne 8, 88, 0, 0, [], 0), (165, 2, .iload 8, 0, 0, 0, [], 0), (167, 3, .goto 16, 94, 0, 0, [], 0), (170, 2, .iload 6, 0, 0, 0, [], 0), (172, 1, .iconst 1, 0, 0, 0, [], 0), (173, 3, .if_icmp .ne 8, 93, 0, 0, [], 0), (176, 2, .iload 9, 0, 0, 0, [], 0), (178, 3, .goto 5, 94, 0, 0, [], 0), (181, 2, .iload 10, 0, 0, 0, [], 0), (183, 1, .ireturn, 0, 0, 0, [], 0)]
def mt_252 : ix_M := (⟨"CryGorgeModel", "span", "(IIIIIII)I"⟩, prog_14_method_102_code, 13, (Option.some FieldType.int), 8, 12, mo_252, [])
def mo_253 : List ix_Op := [(0, 1, .iload_n 3, 0, 0, 0, [], 0), (1, 3, .ifCond .ne 10, 7, 0, 0, [], 0), (4, 1, .aload_n 1, 0, 0, 0, [], 0), (5, 1, .aload_n 0, 0, 0, 0, [], 0), (6, 3, .getfield 390, 12, 39, 0, [], 0), (9, 1, .iload_n 2, 0, 0, 0, [], 0), (10, 1, .iastore, 0, 0, 0, [], 0), (11, 1, .aload_n 0, 0, 0, 0, [], 0), (12, 1, .dup, 0, 0, 0, [], 0), (13, 3, .getfield 390, 12, 39, 0, [], 0), (16, 1, .iconst 1, 0, 0, 0, [], 0), (17, 1, .iadd, 0, 0, 0, [], 0), (18, 3, .putfield 390, 12, 39, 0, [], 0), (21, 1, .aload_n 1, 0, 0, 0, [], 0), (22, 1, .aload_n 0, 0, 0, 0, [], 0), (23, 3, .getfield 390, 12, 39, 0, [], 0), (26, 1, .iconst 1, 0, 0, 0, [], 0), (27, 1, .isub, 0, 0, 0, [], 0), (28, 1, .iaload, 0, 0, 0, [], 0), (29, 1, .ireturn, 0, 0, 0, [], 0)]
def mt_253 : ix_M := (⟨"CryGorgeModel", "puts", "([IIZ)I"⟩, prog_14_method_103_code, 4, (Option.some FieldType.int), 4, 12, mo_253, [])
def mo_254 : List ix_Op := [(0, 1, .aload_n 0, 0, 0, 0, [], 0), (1, 1, .iconst 0, 0, 0, 0, [], 0), (2, 3, .putfield 390, 12, 39, 0, [], 0), (5, 1, .aload_n 0, 0, 0, 0, [], 0), (6, 1, .aload_n 0, 0, 0, 0, [], 0), (7, 1, .aload_n 1, 0, 0, 0, [], 0), (8, 1, .aload_n 0, 0, 0, 0, [], 0), (9, 3, .getfield 202, 12, 36, 0, [], 0), (12, 1, .iload_n 2, 0, 0, 0, [], 0), (13, 3, .invokevirtual 393, 253, 0, 4, [12], 0), (16, 3, .putfield 202, 12, 36, 0, [], 0), (19, 1, .iconst 0, 0, 0, 0, [], 0), (20, 1, .istore_n 3, 0, 0, 0, [], 0), (21, 1, .iload_n 3, 0, 0, 0, [], 0), (22, 2, .bipush 32, 0, 0, 0, [], 0), (24, 3, .if_icmp .ge 27, 30, 0, 0, [], 0), (27, 1, .aload_n 0, 0, 0, 0, [], 0), (28, 3, .getfield 70, 12, 30, 0, [], 0), (31, 1, .iload_n 3, 0, 0, 0, [], 0), (32, 1, .aload_n 0, 0, 0, 0, [], 0), (33, 1, .aload_n 1, 0, 0, 0, [], 0), (34, 1, .aload_n 0, 0, 0, 0, [], 0), (35, 3, .getfield 70, 12, 30, 0, [], 0), (38, 1, .iload_n 3, 0, 0, 0, [], 0), (39, 1, .iaload, 0, 0, 0, [], 0), (40, 1, .iload_n 2, 0, 0, 0, [], 0), (41, 3, .invokevirtual 393, 253, 0, 4, [12], 0), (44, 1, .iastore, 0, 0, 0, [], 0), (45, 3, .iinc 3 1, 0, 0, 0, [], 0), (48, 3, .goto (-27), 13, 0, 0, [], 0), (51, 1, .iconst 0, 0, 0, 0, [], 0), (52, 1, .istore_n 3, 0, 0, 0, [], 0), (53, 1, .iload_n 3, 0, 0, 0, [], 0), (54, 2, .bipush 16, 0, 0, 0, [], 0), (56, 3, .if_icmp .ge 49, 60, 0, 0, [], 0), (59, 1, .iconst 0, 0, 0, 0, [], 0), (60, 2, .istore 4, 0, 0, 0, [], 0), (62, 2, .iload 4, 0, 0, 0, [], 0), (64, 2, .bipush 32, 0, 0, 0, [], 0), (66, 3, .if_icmp .ge 33, 58, 0, 0, [], 0), (69, 1, .aload_n 0, 0, 0, 0, [], 0), (70, 3, .getfield 79, 12, 33, 0, [], 0), (73, 1, .iload_n 3, 0, 0, 0, [], 0), (74, 1, .aaload, 0, 0, 0, [], 0), (75, 2, .iload 4, 0, 0, 0, [], 0), (77, 1, .aload_n 0, 0, 0, 0, [], 0), (78, 1, .aload_n 1, 0, 0, 0, [], 0), (79, 1, .aload_n 0, 0, 0, 0, [], 0), (80, 3, .getfield 79, 12, 33, 0, [], 0), (83, 1, .iload_n 3, 0, 0, 0, [], 0), (84, 1, .aaload, 0, 0, 0, [], 0), (85, 2, .iload 4, 0, 0, 0, [], 0), (87, 1, .iaload, 0, 0, 0, [], 0), (88, 1, .iload_n 2, 0, 0, 0, [], 0), (89, 3, .invokevirtual 393, 253, 0, 4, [12], 0), (92, 1, .iastore, 0, 0, 0, [], 0), (93, 3, .iinc 4 1, 0, 0, 0, [], 0), (96, 3, .goto (-34), 37, 0, 0, [], 0), (99, 3, .iinc 3 1, 0, 0, 0, [], 0), (102, 3, .goto (-49), 32, 0, 0, [], 0), (105, 1, .return_, 0, 0, 0, [], 0)]
def mt_254 : ix_M := (⟨"CryGorgeModel", "putsAll", "([IZ)V"⟩, prog_14_method_104_code, 5, (Option.none : Option FieldType), 3, 12, mo_254, [])
def mo_255 : List ix_Op := [(0, 1, .aload_n 0, 0, 0, 0, [], 0), (1, 1, .iconst 0, 0, 0, 0, [], 0), (2, 3, .putfield 103, 12, 0, 0, [], 0), (5, 1, .aload_n 0, 0, 0, 0, [], 0), (6, 3, .getfield 208, 12, 38, 0, [], 0), (9, 1, .iconst 3, 0, 0, 0, [], 0), (10, 3, .if_icmp .ne 5, 9, 0, 0, [], 0), (13, 1, .iconst (-1), 0, 0, 0, [], 0), (14, 1, .ireturn, 0, 0, 0, [], 0), (15, 1, .aload_n 0, 0, 0, 0, [], 0), (16, 1, .aload_n 0, 0, 0, 0, [], 0), (17, 3, .getfield 82, 12, 34, 0, [], 0), (20, 1, .aload_n 0, 0, 0, 0, [], 0), (21, 3, .getfield 208, 12, 38, 0, [], 0), (24, 1, .aaload, 0, 0, 0, [], 0), (25, 1, .iconst 0, 0, 0, 0, [], 0), (26, 3, .invokevirtual 397, 254, 0, 3, [12], 0), (29, 1, .aload_n 0, 0, 0, 0, [], 0), (30, 1, .dup, 0, 0, 0, [], 0), (31, 3, .getfield 208, 12, 38, 0, [], 0), (34, 1, .iconst 1, 0, 0, 0, [], 0), (35, 1, .iadd, 0, 0, 0, [], 0), (36, 3, .putfield 208, 12, 38, 0, [], 0), (39, 1, .aload_n 0, 0, 0, 0, [], 0), (40, 3, .getfield 208, 12, 38, 0, [], 0), (43, 1, .ireturn, 0, 0, 0, [], 0)]
def mt_255 : ix_M := (⟨"CryGorgeModel", "image", "()I"⟩, prog_14_method_105_code, 1, (Option.some FieldType.int), 1, 12, mo_255, [])
def mo_256 : List ix_Op := [(0, 1, .aload_n 0, 0, 0, 0, [], 0), (1, 1, .iconst 0, 0, 0, 0, [], 0), (2, 3, .putfield 103, 12, 0, 0, [], 0), (5, 1, .aload_n 0, 0, 0, 0, [], 0), (6, 3, .getfield 208, 12, 38, 0, [], 0), (9, 3, .ifCond .ne 5, 8, 0, 0, [], 0), (12, 1, .iconst (-1), 0, 0, 0, [], 0), (13, 1, .ireturn, 0, 0, 0, [], 0), (14, 1, .aload_n 0, 0, 0, 0, [], 0), (15, 1, .dup, 0, 0, 0, [], 0), (16, 3, .getfield 208, 12, 38, 0, [], 0), (19, 1, .iconst 1, 0, 0, 0, [], 0), (20, 1, .isub, 0, 0, 0, [], 0), (21, 3, .putfield 208, 12, 38, 0, [], 0), (24, 1, .aload_n 0, 0, 0, 0, [], 0), (25, 1, .aload_n 0, 0, 0, 0, [], 0), (26, 3, .getfield 82, 12, 34, 0, [], 0), (29, 1, .aload_n 0, 0, 0, 0, [], 0), (30, 3, .getfield 208, 12, 38, 0, [], 0), (33, 1, .aaload, 0, 0, 0, [], 0), (34, 1, .iconst 1, 0, 0, 0, [], 0), (35, 3, .invokevirtual 397, 254, 0, 3, [12], 0), (38, 1, .aload_n 0, 0, 0, 0, [], 0), (39, 1, .iconst 0, 0, 0, 0, [], 0), (40, 3, .putfield 205, 12, 37, 0, [], 0), (43, 1, .aload_n 0, 0, 0, 0, [], 0), (44, 3, .getfield 208, 12, 38, 0, [], 0), (47, 1, .ireturn, 0, 0, 0, [], 0)]
def mt_256 : ix_M := (⟨"CryGorgeModel", "restore", "()I"⟩, prog_14_method_106_code, 1, (Option.some FieldType.int), 1, 12, mo_256, [])
def mo_257 : List ix_Op := [(0, 1, .aload_n 0, 0, 0, 0, [], 0), (1, 1, .iconst 0, 0, 0, 0, [], 0), (2, 3, .putfield 103, 12, 0, 0, [], 0), (5, 1, .iload_n 1, 0, 0, 0, [], 0), (6, 1, .iconst 0, 0, 0, 0, [], 0), (7, 1, .iconst 1, 0, 0, 0, [], 0), (8, 3, .invokestatic 137, 155, 1, 3, [], 0), (11, 3, .ifCond .eq 12, 13, 0, 0, [], 0), (14, 1, .aload_n 0, 0, 0, 0, [], 0), (15, 3, .getfield 17, 12, 10, 0, [], 0), (18, 1, .iload_n 1, 0, 0, 0, [], 0), (19, 1, .iaload, 0, 0, 0, [], 0), (20, 3, .goto 4, 14, 0, 0, [], 0), (23, 1, .iconst (-1), 0, 0, 0, [], 0), (24, 1, .ireturn, 0, 0, 0, [], 0)]
def mt_257 : ix_M := (⟨"CryGorgeModel", "status", "(I)I"⟩, prog_14_method_107_code, 2, (Option.some FieldType.int), 2, 12, mo_257, [])
def mo_258 : List ix_Op := [(0, 1, .aload_n 0, 0, 0, 0, [], 0), (1, 1, .iconst 0, 0, 0, 0, [], 0), (2, 3, .putfield 103, 12, 0, 0, [], 0), (5, 1, .iload_n 1, 0, 0, 0, [], 0), (6, 3, .ifCond .ne 10, 8, 0, 0, [], 0), (9, 1, .aload_n 0, 0, 0, 0, [], 0), (10, 3, .getfield 208, 12, 38, 0, [], 0), (13, 3, .goto 28, 21, 0, 0, [], 0), (16, 1, .iload_n 1, 0, 0, 0, [], 0), (17, 1, .iconst 1, 0, 0, 0, [], 0), (18, 3, .if_icmp .ne 10, 14, 0, 0, [], 0), (21, 1, .aload_n 0, 0, 0, 0, [], 0), (22, 3, .getfield 106, 12, 1, 0, [], 0), (25, 3, .goto 16, 21, 0, 0, [], 0), (28, 1, .iload_n 1, 0, 0, 0, [], 0), (29, 1, .iconst 2, 0, 0, 0, [], 0), (30, 3, .if_icmp .ne 10, 20, 0, 0, [], 0), (33, 1, .aload_n 0, 0, 0, 0, [], 0), (34, 3, .getfield 202, 12, 36, 0, [], 0), (37, 3, .goto 4, 21, 0, 0, [], 0), (40, 1, .iconst (-1), 0, 0, 0, [], 0), (41, 1, .ireturn, 0, 0, 0, [], 0)]
def mt_258 : ix_M := (⟨"CryGorgeModel", "count", "(I)I"⟩, prog_14_method_108_code, 2, (Option.some FieldType.int), 2, 12, mo_258, [])
def mo_259 : List ix_Op := [(0, 1, .iload_n 0, 0, 0, 0, [], 0), (1, 1, .iload_n 0, 0, 0, 0, [], 0), (2, 1, .iconst 1, 0, 0, 0, [], 0), (3, 1, .iushr, 0, 0, 0, [], 0), (4, 3, .ldc_w 265, 0, 0, 0, [], 1431655765), (7, 1, .iand, 0, 0, 0, [], 0), (8, 1, .isub, 0, 0, 0, [], 0), (9, 1, .istore_n 0, 0, 0, 0, [], 0), (10, 1, .iload_n 0, 0, 0, 0, [], 0), (11, 3, .ldc_w 266, 0, 0, 0, [], 858993459), (14, 1, .iand, 0, 0, 0, [], 0), (15, 1, .iload_n 0, 0, 0, 0, [], 0), (16, 1, .iconst 2, 0, 0, 0, [], 0), (17, 1, .iushr, 0, 0, 0, [], 0), (18, 3, .ldc_w 266, 0, 0, 0, [], 858993459), (21, 1, .iand, 0, 0, 0, [], 0), (22, 1, .iadd, 0, 0, 0, [], 0), (23, 1, .istore_n 0, 0, 0, 0, [], 0), (24, 1, .iload_n 0, 0, 0, 0, [], 0), (25, 1, .iload_n 0, 0, 0, 0, [], 0), (26, 1, .iconst 4, 0, 0, 0, [], 0), (27, 1, .iushr, 0, 0, 0, [], 0), (28, 1, .iadd, 0, 0, 0, [], 0), (29, 3, .ldc_w 267, 0, 0, 0, [], 252645135), (32, 1, .iand, 0, 0, 0, [], 0), (33, 1, .istore_n 0, 0, 0, 0, [], 0), (34, 1, .iload_n 0, 0, 0, 0, [], 0), (35, 1, .iload_n 0, 0, 0, 0, [], 0), (36, 2, .bipush 8, 0, 0, 0, [], 0), (38, 1, .iushr, 0, 0, 0, [], 0), (39, 1, .iadd, 0, 0, 0, [], 0), (40, 1, .istore_n 0, 0, 0, 0, [], 0), (41, 1, .iload_n 0, 0, 0, 0, [], 0), (42, 1, .iload_n 0, 0, 0, 0, [], 0), (43, 2, .bipush 16, 0, 0, 0, [], 0), (45, 1, .iushr, 0, 0, 0, [], 0), (46, 1, .iadd, 0, 0, 0, [], 0), (47, 1, .istore_n 0, 0, 0, 0, [], 0), (48, 1, .iload_n 0, 0, 0, 0, [], 0), (49, 2, .bipush 63, 0, 0, 0, [], 0), (51, 1, .iand, 0, 0, 0, [], 0), (52, 1, .ireturn, 0, 0, 0, [], 0)]
def mt_259 : ix_M := (⟨"java/lang/Integer", "bitCount", "(I)I"⟩, prog_20_method_49_code, 1, (Option.some FieldType.int), 1, 14, mo_259, [])
def mo_260 : List ix_Op := [(0, 1, .aload_n 2, 0, 0, 0, [], 0), (1, 1, .iconst 0, 0, 0, 0, [], 0), (2, 1, .aload_n 0, 0, 0, 0, [], 0), (3, 1, .iload_n 1, 0, 0, 0, [], 0), (4, 3, .invokevirtual 7, 104, 0, 2, [11], 0), (7, 1, .i2l, 0, 0, 0, [], 0), (8, 1, .lastore, 0, 0, 0, [], 0), (9, 3, .goto 6, 11, 0, 0, [], 0), (12, 1, .astore_n 3, 0, 0, 0, [], 0), (13, 1, .iconst 1, 0, 0, 0, [], 0), (14, 1, .ireturn, 0, 0, 0, [], 0), (15, 1, .iconst 0, 0, 0, 0, [], 0), (16, 1, .ireturn, 0, 0, 0, [], 0)]
def mt_260 : ix_M := (⟨"CryGorgeLaw", "gorge", "(LCryGorge;I[J)I"⟩, method_3_code, 4, (Option.some FieldType.int), 3, 13, mo_260, [(0, 9, 0, 9, 3)])
def mo_261 : List ix_Op := [(0, 1, .aload_n 2, 0, 0, 0, [], 0), (1, 1, .iconst 0, 0, 0, 0, [], 0), (2, 1, .aload_n 0, 0, 0, 0, [], 0), (3, 1, .iload_n 1, 0, 0, 0, [], 0), (4, 3, .invokevirtual 15, 106, 0, 2, [11], 0), (7, 1, .i2l, 0, 0, 0, [], 0), (8, 1, .lastore, 0, 0, 0, [], 0), (9, 3, .goto 6, 11, 0, 0, [], 0), (12, 1, .astore_n 3, 0, 0, 0, [], 0), (13, 1, .iconst 1, 0, 0, 0, [], 0), (14, 1, .ireturn, 0, 0, 0, [], 0), (15, 1, .iconst 0, 0, 0, 0, [], 0), (16, 1, .ireturn, 0, 0, 0, [], 0)]
def mt_261 : ix_M := (⟨"CryGorgeLaw", "law", "(LCryGorge;I[J)I"⟩, method_4_code, 4, (Option.some FieldType.int), 3, 13, mo_261, [(0, 9, 0, 9, 3)])
def mo_262 : List ix_Op := [(0, 1, .aload_n 2, 0, 0, 0, [], 0), (1, 1, .iconst 0, 0, 0, 0, [], 0), (2, 1, .aload_n 0, 0, 0, 0, [], 0), (3, 1, .iload_n 1, 0, 0, 0, [], 0), (4, 3, .invokevirtual 18, 107, 0, 2, [11], 0), (7, 1, .i2l, 0, 0, 0, [], 0), (8, 1, .lastore, 0, 0, 0, [], 0), (9, 3, .goto 6, 11, 0, 0, [], 0), (12, 1, .astore_n 3, 0, 0, 0, [], 0), (13, 1, .iconst 1, 0, 0, 0, [], 0), (14, 1, .ireturn, 0, 0, 0, [], 0), (15, 1, .iconst 0, 0, 0, 0, [], 0), (16, 1, .ireturn, 0, 0, 0, [], 0)]
def mt_262 : ix_M := (⟨"CryGorgeLaw", "work", "(LCryGorge;I[J)I"⟩, method_5_code, 4, (Option.some FieldType.int), 3, 13, mo_262, [(0, 9, 0, 9, 3)])
def mo_263 : List ix_Op := [(0, 1, .aload_n 2, 0, 0, 0, [], 0), (1, 1, .iconst 0, 0, 0, 0, [], 0), (2, 1, .aload_n 0, 0, 0, 0, [], 0), (3, 1, .iload_n 1, 0, 0, 0, [], 0), (4, 3, .invokevirtual 21, 108, 0, 2, [11], 0), (7, 1, .i2l, 0, 0, 0, [], 0), (8, 1, .lastore, 0, 0, 0, [], 0), (9, 3, .goto 6, 11, 0, 0, [], 0), (12, 1, .astore_n 3, 0, 0, 0, [], 0), (13, 1, .iconst 1, 0, 0, 0, [], 0), (14, 1, .ireturn, 0, 0, 0, [], 0), (15, 1, .iconst 0, 0, 0, 0, [], 0), (16, 1, .ireturn, 0, 0, 0, [], 0)]
def mt_263 : ix_M := (⟨"CryGorgeLaw", "heard", "(LCryGorge;I[J)I"⟩, method_6_code, 4, (Option.some FieldType.int), 3, 13, mo_263, [(0, 9, 0, 9, 3)])
def mo_264 : List ix_Op := [(0, 1, .aload_n 2, 0, 0, 0, [], 0), (1, 1, .iconst 0, 0, 0, 0, [], 0), (2, 1, .aload_n 0, 0, 0, 0, [], 0), (3, 1, .iload_n 1, 0, 0, 0, [], 0), (4, 3, .invokevirtual 24, 113, 0, 2, [11], 0), (7, 1, .i2l, 0, 0, 0, [], 0), (8, 1, .lastore, 0, 0, 0, [], 0), (9, 3, .goto 6, 11, 0, 0, [], 0), (12, 1, .astore_n 3, 0, 0, 0, [], 0), (13, 1, .iconst 1, 0, 0, 0, [], 0), (14, 1, .ireturn, 0, 0, 0, [], 0), (15, 1, .iconst 0, 0, 0, 0, [], 0), (16, 1, .ireturn, 0, 0, 0, [], 0)]
def mt_264 : ix_M := (⟨"CryGorgeLaw", "told", "(LCryGorge;I[J)I"⟩, method_7_code, 4, (Option.some FieldType.int), 3, 13, mo_264, [(0, 9, 0, 9, 3)])
def mo_265 : List ix_Op := [(0, 1, .aload_n 3, 0, 0, 0, [], 0), (1, 1, .iconst 0, 0, 0, 0, [], 0), (2, 1, .aload_n 0, 0, 0, 0, [], 0), (3, 1, .iload_n 1, 0, 0, 0, [], 0), (4, 1, .iload_n 2, 0, 0, 0, [], 0), (5, 3, .invokevirtual 27, 114, 0, 3, [11], 0), (8, 1, .i2l, 0, 0, 0, [], 0), (9, 1, .lastore, 0, 0, 0, [], 0), (10, 3, .goto 11, 15, 0, 0, [], 0), (13, 2, .astore 4, 0, 0, 0, [], 0), (15, 1, .iconst 1, 0, 0, 0, [], 0), (16, 1, .ireturn, 0, 0, 0, [], 0), (17, 2, .astore 4, 0, 0, 0, [], 0), (19, 1, .iconst 2, 0, 0, 0, [], 0), (20, 1, .ireturn, 0, 0, 0, [], 0), (21, 1, .iconst 0, 0, 0, 0, [], 0), (22, 1, .ireturn, 0, 0, 0, [], 0)]
def mt_265 : ix_M := (⟨"CryGorgeLaw", "bay", "(LCryGorge;II[J)I"⟩, method_8_code, 5, (Option.some FieldType.int), 4, 13, mo_265, [(0, 10, 1, 10, 4), (0, 10, 0, 13, 4)])
def mo_266 : List ix_Op := [(0, 1, .aload_n 3, 0, 0, 0, [], 0), (1, 1, .iconst 0, 0, 0, 0, [], 0), (2, 1, .aload_n 0, 0, 0, 0, [], 0), (3, 1, .iload_n 1, 0, 0, 0, [], 0), (4, 1, .iload_n 2, 0, 0, 0, [], 0), (5, 3, .invokevirtual 33, 115, 0, 3, [11], 0), (8, 1, .i2l, 0, 0, 0, [], 0), (9, 1, .lastore, 0, 0, 0, [], 0), (10, 3, .goto 11, 15, 0, 0, [], 0), (13, 2, .astore 4, 0, 0, 0, [], 0), (15, 1, .iconst 1, 0, 0, 0, [], 0), (16, 1, .ireturn, 0, 0, 0, [], 0), (17, 2, .astore 4, 0, 0, 0, [], 0), (19, 1, .iconst 2, 0, 0, 0, [], 0), (20, 1, .ireturn, 0, 0, 0, [], 0), (21, 1, .iconst 0, 0, 0, 0, [], 0), (22, 1, .ireturn, 0, 0, 0, [], 0)]
def mt_266 : ix_M := (⟨"CryGorgeLaw", "cry", "(LCryGorge;II[J)I"⟩, method_9_code, 5, (Option.some FieldType.int), 4, 13, mo_266, [(0, 10, 1, 10, 4), (0, 10, 0, 13, 4)])
def mo_267 : List ix_Op := [(0, 2, .aload 9, 0, 0, 0, [], 0), (2, 1, .iconst 0, 0, 0, 0, [], 0), (3, 1, .aload_n 0, 0, 0, 0, [], 0), (4, 1, .iload_n 1, 0, 0, 0, [], 0), (5, 1, .iload_n 2, 0, 0, 0, [], 0), (6, 1, .iload_n 3, 0, 0, 0, [], 0), (7, 2, .iload 4, 0, 0, 0, [], 0), (9, 2, .iload 5, 0, 0, 0, [], 0), (11, 2, .iload 6, 0, 0, 0, [], 0), (13, 2, .iload 7, 0, 0, 0, [], 0), (15, 2, .iload 8, 0, 0, 0, [], 0), (17, 3, .invokevirtual 36, 116, 0, 9, [11], 0), (20, 1, .i2l, 0, 0, 0, [], 0), (21, 1, .lastore, 0, 0, 0, [], 0), (22, 3, .goto 7, 18, 0, 0, [], 0), (25, 2, .astore 10, 0, 0, 0, [], 0), (27, 1, .iconst 1, 0, 0, 0, [], 0), (28, 1, .ireturn, 0, 0, 0, [], 0), (29, 1, .iconst 0, 0, 0, 0, [], 0), (30, 1, .ireturn, 0, 0, 0, [], 0)]
def mt_267 : ix_M := (⟨"CryGorgeLaw", "would", "(LCryGorge;IIIIIIII[J)I"⟩, method_10_code, 11, (Option.some FieldType.int), 10, 13, mo_267, [(0, 22, 0, 16, 10)])
def mo_268 : List ix_Op := [(0, 1, .aload_n 3, 0, 0, 0, [], 0), (1, 1, .iconst 0, 0, 0, 0, [], 0), (2, 1, .aload_n 0, 0, 0, 0, [], 0), (3, 1, .iload_n 1, 0, 0, 0, [], 0), (4, 1, .iload_n 2, 0, 0, 0, [], 0), (5, 3, .invokevirtual 40, 117, 0, 3, [11], 0), (8, 1, .i2l, 0, 0, 0, [], 0), (9, 1, .lastore, 0, 0, 0, [], 0), (10, 3, .goto 7, 12, 0, 0, [], 0), (13, 2, .astore 4, 0, 0, 0, [], 0), (15, 1, .iconst 1, 0, 0, 0, [], 0), (16, 1, .ireturn, 0, 0, 0, [], 0), (17, 1, .iconst 0, 0, 0, 0, [], 0), (18, 1, .ireturn, 0, 0, 0, [], 0)]
def mt_268 : ix_M := (⟨"CryGorgeLaw", "ahead", "(LCryGorge;II[J)I"⟩, method_11_code, 5, (Option.some FieldType.int), 4, 13, mo_268, [(0, 10, 0, 10, 4)])
def mo_269 : List ix_Op := [(0, 1, .aload_n 2, 0, 0, 0, [], 0), (1, 1, .iconst 0, 0, 0, 0, [], 0), (2, 1, .aload_n 0, 0, 0, 0, [], 0), (3, 1, .iload_n 1, 0, 0, 0, [], 0), (4, 3, .invokevirtual 43, 118, 0, 2, [11], 0), (7, 1, .i2l, 0, 0, 0, [], 0), (8, 1, .lastore, 0, 0, 0, [], 0), (9, 3, .goto 6, 11, 0, 0, [], 0), (12, 1, .astore_n 3, 0, 0, 0, [], 0), (13, 1, .iconst 1, 0, 0, 0, [], 0), (14, 1, .ireturn, 0, 0, 0, [], 0), (15, 1, .iconst 0, 0, 0, 0, [], 0), (16, 1, .ireturn, 0, 0, 0, [], 0)]
def mt_269 : ix_M := (⟨"CryGorgeLaw", "lasts", "(LCryGorge;I[J)I"⟩, method_12_code, 4, (Option.some FieldType.int), 3, 13, mo_269, [(0, 9, 1, 9, 3)])
def mo_270 : List ix_Op := [(0, 1, .aload_n 2, 0, 0, 0, [], 0), (1, 1, .iconst 0, 0, 0, 0, [], 0), (2, 1, .aload_n 0, 0, 0, 0, [], 0), (3, 1, .iload_n 1, 0, 0, 0, [], 0), (4, 3, .invokevirtual 46, 119, 0, 2, [11], 0), (7, 1, .i2l, 0, 0, 0, [], 0), (8, 1, .lastore, 0, 0, 0, [], 0), (9, 3, .goto 6, 11, 0, 0, [], 0), (12, 1, .astore_n 3, 0, 0, 0, [], 0), (13, 1, .iconst 1, 0, 0, 0, [], 0), (14, 1, .ireturn, 0, 0, 0, [], 0), (15, 1, .iconst 0, 0, 0, 0, [], 0), (16, 1, .ireturn, 0, 0, 0, [], 0)]
def mt_270 : ix_M := (⟨"CryGorgeLaw", "ripe", "(LCryGorge;I[J)I"⟩, method_13_code, 4, (Option.some FieldType.int), 3, 13, mo_270, [(0, 9, 1, 9, 3)])
def mo_271 : List ix_Op := [(0, 1, .aload_n 2, 0, 0, 0, [], 0), (1, 1, .iconst 0, 0, 0, 0, [], 0), (2, 1, .aload_n 0, 0, 0, 0, [], 0), (3, 1, .iload_n 1, 0, 0, 0, [], 0), (4, 3, .invokevirtual 49, 120, 0, 2, [11], 0), (7, 1, .i2l, 0, 0, 0, [], 0), (8, 1, .lastore, 0, 0, 0, [], 0), (9, 3, .goto 6, 11, 0, 0, [], 0), (12, 1, .astore_n 3, 0, 0, 0, [], 0), (13, 1, .iconst 1, 0, 0, 0, [], 0), (14, 1, .ireturn, 0, 0, 0, [], 0), (15, 1, .iconst 0, 0, 0, 0, [], 0), (16, 1, .ireturn, 0, 0, 0, [], 0)]
def mt_271 : ix_M := (⟨"CryGorgeLaw", "plan", "(LCryGorge;I[J)I"⟩, method_14_code, 4, (Option.some FieldType.int), 3, 13, mo_271, [(0, 9, 0, 9, 3)])
def mo_272 : List ix_Op := [(0, 1, .aload_n 3, 0, 0, 0, [], 0), (1, 1, .iconst 0, 0, 0, 0, [], 0), (2, 1, .aload_n 0, 0, 0, 0, [], 0), (3, 1, .iload_n 1, 0, 0, 0, [], 0), (4, 1, .iload_n 2, 0, 0, 0, [], 0), (5, 3, .invokevirtual 52, 121, 0, 3, [11], 0), (8, 1, .i2l, 0, 0, 0, [], 0), (9, 1, .lastore, 0, 0, 0, [], 0), (10, 3, .goto 11, 15, 0, 0, [], 0), (13, 2, .astore 4, 0, 0, 0, [], 0), (15, 1, .iconst 1, 0, 0, 0, [], 0), (16, 1, .ireturn, 0, 0, 0, [], 0), (17, 2, .astore 4, 0, 0, 0, [], 0), (19, 1, .iconst 2, 0, 0, 0, [], 0), (20, 1, .ireturn, 0, 0, 0, [], 0), (21, 1, .iconst 0, 0, 0, 0, [], 0), (22, 1, .ireturn, 0, 0, 0, [], 0)]
def mt_272 : ix_M := (⟨"CryGorgeLaw", "planned", "(LCryGorge;II[J)I"⟩, method_15_code, 5, (Option.some FieldType.int), 4, 13, mo_272, [(0, 10, 1, 10, 4), (0, 10, 0, 13, 4)])
def mo_273 : List ix_Op := [(0, 1, .aload_n 2, 0, 0, 0, [], 0), (1, 1, .iconst 0, 0, 0, 0, [], 0), (2, 1, .aload_n 0, 0, 0, 0, [], 0), (3, 1, .iload_n 1, 0, 0, 0, [], 0), (4, 3, .invokevirtual 55, 123, 0, 2, [11], 0), (7, 1, .i2l, 0, 0, 0, [], 0), (8, 1, .lastore, 0, 0, 0, [], 0), (9, 3, .goto 6, 11, 0, 0, [], 0), (12, 1, .astore_n 3, 0, 0, 0, [], 0), (13, 1, .iconst 1, 0, 0, 0, [], 0), (14, 1, .ireturn, 0, 0, 0, [], 0), (15, 1, .iconst 0, 0, 0, 0, [], 0), (16, 1, .ireturn, 0, 0, 0, [], 0)]
def mt_273 : ix_M := (⟨"CryGorgeLaw", "whose", "(LCryGorge;I[J)I"⟩, method_16_code, 4, (Option.some FieldType.int), 3, 13, mo_273, [(0, 9, 0, 9, 3)])
def mo_274 : List ix_Op := [(0, 1, .aload_n 2, 0, 0, 0, [], 0), (1, 1, .iconst 0, 0, 0, 0, [], 0), (2, 1, .aload_n 0, 0, 0, 0, [], 0), (3, 1, .iload_n 1, 0, 0, 0, [], 0), (4, 3, .invokevirtual 58, 124, 0, 2, [11], 0), (7, 1, .i2l, 0, 0, 0, [], 0), (8, 1, .lastore, 0, 0, 0, [], 0), (9, 3, .goto 6, 11, 0, 0, [], 0), (12, 1, .astore_n 3, 0, 0, 0, [], 0), (13, 1, .iconst 1, 0, 0, 0, [], 0), (14, 1, .ireturn, 0, 0, 0, [], 0), (15, 1, .iconst 0, 0, 0, 0, [], 0), (16, 1, .ireturn, 0, 0, 0, [], 0)]
def mt_274 : ix_M := (⟨"CryGorgeLaw", "listen", "(LCryGorge;I[J)I"⟩, method_17_code, 4, (Option.some FieldType.int), 3, 13, mo_274, [(0, 9, 0, 9, 3)])
def mo_275 : List ix_Op := [(0, 1, .aload_n 3, 0, 0, 0, [], 0), (1, 1, .iconst 0, 0, 0, 0, [], 0), (2, 1, .aload_n 0, 0, 0, 0, [], 0), (3, 1, .iload_n 1, 0, 0, 0, [], 0), (4, 1, .iload_n 2, 0, 0, 0, [], 0), (5, 3, .invokevirtual 61, 125, 0, 3, [11], 0), (8, 1, .i2l, 0, 0, 0, [], 0), (9, 1, .lastore, 0, 0, 0, [], 0), (10, 3, .goto 7, 12, 0, 0, [], 0), (13, 2, .astore 4, 0, 0, 0, [], 0), (15, 1, .iconst 1, 0, 0, 0, [], 0), (16, 1, .ireturn, 0, 0, 0, [], 0), (17, 1, .iconst 0, 0, 0, 0, [], 0), (18, 1, .ireturn, 0, 0, 0, [], 0)]
def mt_275 : ix_M := (⟨"CryGorgeLaw", "interval", "(LCryGorge;II[J)I"⟩, method_18_code, 5, (Option.some FieldType.int), 4, 13, mo_275, [(0, 10, 1, 10, 4)])
def mo_276 : List ix_Op := [(0, 1, .aload_n 3, 0, 0, 0, [], 0), (1, 1, .iconst 0, 0, 0, 0, [], 0), (2, 1, .aload_n 0, 0, 0, 0, [], 0), (3, 1, .iload_n 1, 0, 0, 0, [], 0), (4, 1, .iload_n 2, 0, 0, 0, [], 0), (5, 3, .invokevirtual 64, 126, 0, 3, [11], 0), (8, 1, .i2l, 0, 0, 0, [], 0), (9, 1, .lastore, 0, 0, 0, [], 0), (10, 3, .goto 7, 12, 0, 0, [], 0), (13, 2, .astore 4, 0, 0, 0, [], 0), (15, 1, .iconst 1, 0, 0, 0, [], 0), (16, 1, .ireturn, 0, 0, 0, [], 0), (17, 1, .iconst 0, 0, 0, 0, [], 0), (18, 1, .ireturn, 0, 0, 0, [], 0)]
def mt_276 : ix_M := (⟨"CryGorgeLaw", "pairs", "(LCryGorge;II[J)I"⟩, method_19_code, 5, (Option.some FieldType.int), 4, 13, mo_276, [(0, 10, 0, 10, 4)])
def mo_277 : List ix_Op := [(0, 1, .aload_n 3, 0, 0, 0, [], 0), (1, 1, .iconst 0, 0, 0, 0, [], 0), (2, 1, .aload_n 0, 0, 0, 0, [], 0), (3, 1, .iload_n 1, 0, 0, 0, [], 0), (4, 1, .iload_n 2, 0, 0, 0, [], 0), (5, 3, .invokevirtual 67, 127, 0, 3, [11], 0), (8, 1, .i2l, 0, 0, 0, [], 0), (9, 1, .lastore, 0, 0, 0, [], 0), (10, 3, .goto 7, 12, 0, 0, [], 0), (13, 2, .astore 4, 0, 0, 0, [], 0), (15, 1, .iconst 1, 0, 0, 0, [], 0), (16, 1, .ireturn, 0, 0, 0, [], 0), (17, 1, .iconst 0, 0, 0, 0, [], 0), (18, 1, .ireturn, 0, 0, 0, [], 0)]
def mt_277 : ix_M := (⟨"CryGorgeLaw", "chord", "(LCryGorge;II[J)I"⟩, method_20_code, 5, (Option.some FieldType.int), 4, 13, mo_277, [(0, 10, 0, 10, 4)])
def mo_278 : List ix_Op := [(0, 2, .aload 4, 0, 0, 0, [], 0), (2, 1, .iconst 0, 0, 0, 0, [], 0), (3, 1, .aload_n 0, 0, 0, 0, [], 0), (4, 1, .iload_n 1, 0, 0, 0, [], 0), (5, 1, .iload_n 2, 0, 0, 0, [], 0), (6, 1, .iload_n 3, 0, 0, 0, [], 0), (7, 3, .invokevirtual 70, 128, 0, 4, [11], 0), (10, 1, .i2l, 0, 0, 0, [], 0), (11, 1, .lastore, 0, 0, 0, [], 0), (12, 3, .goto 11, 16, 0, 0, [], 0), (15, 2, .astore 5, 0, 0, 0, [], 0), (17, 1, .iconst 1, 0, 0, 0, [], 0), (18, 1, .ireturn, 0, 0, 0, [], 0), (19, 2, .astore 5, 0, 0, 0, [], 0), (21, 1, .iconst 2, 0, 0, 0, [], 0), (22, 1, .ireturn, 0, 0, 0, [], 0), (23, 1, .iconst 0, 0, 0, 0, [], 0), (24, 1, .ireturn, 0, 0, 0, [], 0)]
def mt_278 : ix_M := (⟨"CryGorgeLaw", "way", "(LCryGorge;III[J)I"⟩, method_21_code, 6, (Option.some FieldType.int), 5, 13, mo_278, [(0, 12, 1, 11, 5), (0, 12, 0, 14, 5)])
def mo_279 : List ix_Op := [(0, 1, .aload_n 3, 0, 0, 0, [], 0), (1, 1, .iconst 0, 0, 0, 0, [], 0), (2, 1, .aload_n 0, 0, 0, 0, [], 0), (3, 1, .iload_n 1, 0, 0, 0, [], 0), (4, 1, .iload_n 2, 0, 0, 0, [], 0), (5, 3, .invokevirtual 74, 129, 0, 3, [11], 0), (8, 1, .i2l, 0, 0, 0, [], 0), (9, 1, .lastore, 0, 0, 0, [], 0), (10, 3, .goto 11, 15, 0, 0, [], 0), (13, 2, .astore 4, 0, 0, 0, [], 0), (15, 1, .iconst 1, 0, 0, 0, [], 0), (16, 1, .ireturn, 0, 0, 0, [], 0), (17, 2, .astore 4, 0, 0, 0, [], 0), (19, 1, .iconst 2, 0, 0, 0, [], 0), (20, 1, .ireturn, 0, 0, 0, [], 0), (21, 1, .iconst 0, 0, 0, 0, [], 0), (22, 1, .ireturn, 0, 0, 0, [], 0)]
def mt_279 : ix_M := (⟨"CryGorgeLaw", "round", "(LCryGorge;II[J)I"⟩, method_22_code, 5, (Option.some FieldType.int), 4, 13, mo_279, [(0, 10, 1, 10, 4), (0, 10, 0, 13, 4)])
def mo_280 : List ix_Op := [(0, 2, .aload 4, 0, 0, 0, [], 0), (2, 1, .iconst 0, 0, 0, 0, [], 0), (3, 1, .aload_n 0, 0, 0, 0, [], 0), (4, 1, .iload_n 1, 0, 0, 0, [], 0), (5, 1, .iload_n 2, 0, 0, 0, [], 0), (6, 1, .iload_n 3, 0, 0, 0, [], 0), (7, 3, .invokevirtual 77, 131, 0, 4, [11], 0), (10, 1, .i2l, 0, 0, 0, [], 0), (11, 1, .lastore, 0, 0, 0, [], 0), (12, 3, .goto 7, 13, 0, 0, [], 0), (15, 2, .astore 5, 0, 0, 0, [], 0), (17, 1, .iconst 1, 0, 0, 0, [], 0), (18, 1, .ireturn, 0, 0, 0, [], 0), (19, 1, .iconst 0, 0, 0, 0, [], 0), (20, 1, .ireturn, 0, 0, 0, [], 0)]
def mt_280 : ix_M := (⟨"CryGorgeLaw", "prices", "(LCryGorge;III[J)I"⟩, method_23_code, 6, (Option.some FieldType.int), 5, 13, mo_280, [(0, 12, 0, 11, 5)])
def mo_281 : List ix_Op := [(0, 2, .aload 4, 0, 0, 0, [], 0), (2, 1, .iconst 0, 0, 0, 0, [], 0), (3, 1, .aload_n 0, 0, 0, 0, [], 0), (4, 1, .iload_n 1, 0, 0, 0, [], 0), (5, 1, .iload_n 2, 0, 0, 0, [], 0), (6, 1, .iload_n 3, 0, 0, 0, [], 0), (7, 3, .invokevirtual 80, 134, 0, 4, [11], 0), (10, 1, .i2l, 0, 0, 0, [], 0), (11, 1, .lastore, 0, 0, 0, [], 0), (12, 3, .goto 11, 16, 0, 0, [], 0), (15, 2, .astore 5, 0, 0, 0, [], 0), (17, 1, .iconst 1, 0, 0, 0, [], 0), (18, 1, .ireturn, 0, 0, 0, [], 0), (19, 2, .astore 5, 0, 0, 0, [], 0), (21, 1, .iconst 2, 0, 0, 0, [], 0), (22, 1, .ireturn, 0, 0, 0, [], 0), (23, 1, .iconst 0, 0, 0, 0, [], 0), (24, 1, .ireturn, 0, 0, 0, [], 0)]
def mt_281 : ix_M := (⟨"CryGorgeLaw", "share", "(LCryGorge;III[J)I"⟩, method_24_code, 6, (Option.some FieldType.int), 5, 13, mo_281, [(0, 12, 1, 11, 5), (0, 12, 0, 14, 5)])
def mo_282 : List ix_Op := [(0, 1, .aload_n 2, 0, 0, 0, [], 0), (1, 1, .iconst 0, 0, 0, 0, [], 0), (2, 1, .aload_n 0, 0, 0, 0, [], 0), (3, 1, .iload_n 1, 0, 0, 0, [], 0), (4, 3, .invokevirtual 83, 135, 0, 2, [11], 0), (7, 1, .i2l, 0, 0, 0, [], 0), (8, 1, .lastore, 0, 0, 0, [], 0), (9, 3, .goto 6, 11, 0, 0, [], 0), (12, 1, .astore_n 3, 0, 0, 0, [], 0), (13, 1, .iconst 1, 0, 0, 0, [], 0), (14, 1, .ireturn, 0, 0, 0, [], 0), (15, 1, .iconst 0, 0, 0, 0, [], 0), (16, 1, .ireturn, 0, 0, 0, [], 0)]
def mt_282 : ix_M := (⟨"CryGorgeLaw", "loudest", "(LCryGorge;I[J)I"⟩, method_25_code, 4, (Option.some FieldType.int), 3, 13, mo_282, [(0, 9, 0, 9, 3)])
def mo_283 : List ix_Op := [(0, 1, .aload_n 3, 0, 0, 0, [], 0), (1, 1, .iconst 0, 0, 0, 0, [], 0), (2, 1, .aload_n 0, 0, 0, 0, [], 0), (3, 1, .iload_n 1, 0, 0, 0, [], 0), (4, 1, .iload_n 2, 0, 0, 0, [], 0), (5, 3, .invokevirtual 86, 136, 0, 3, [11], 0), (8, 1, .i2l, 0, 0, 0, [], 0), (9, 1, .lastore, 0, 0, 0, [], 0), (10, 3, .goto 11, 15, 0, 0, [], 0), (13, 2, .astore 4, 0, 0, 0, [], 0), (15, 1, .iconst 1, 0, 0, 0, [], 0), (16, 1, .ireturn, 0, 0, 0, [], 0), (17, 2, .astore 4, 0, 0, 0, [], 0), (19, 1, .iconst 2, 0, 0, 0, [], 0), (20, 1, .ireturn, 0, 0, 0, [], 0), (21, 1, .iconst 0, 0, 0, 0, [], 0), (22, 1, .ireturn, 0, 0, 0, [], 0)]
def mt_283 : ix_M := (⟨"CryGorgeLaw", "kindest", "(LCryGorge;II[J)I"⟩, method_26_code, 5, (Option.some FieldType.int), 4, 13, mo_283, [(0, 10, 1, 10, 4), (0, 10, 0, 13, 4)])
def mo_284 : List ix_Op := [(0, 2, .aload 6, 0, 0, 0, [], 0), (2, 1, .iconst 0, 0, 0, 0, [], 0), (3, 1, .aload_n 0, 0, 0, 0, [], 0), (4, 1, .iload_n 1, 0, 0, 0, [], 0), (5, 1, .iload_n 2, 0, 0, 0, [], 0), (6, 1, .iload_n 3, 0, 0, 0, [], 0), (7, 2, .iload 4, 0, 0, 0, [], 0), (9, 2, .iload 5, 0, 0, 0, [], 0), (11, 3, .invokevirtual 89, 139, 0, 6, [11], 0), (14, 1, .i2l, 0, 0, 0, [], 0), (15, 1, .lastore, 0, 0, 0, [], 0), (16, 3, .goto 7, 15, 0, 0, [], 0), (19, 2, .astore 7, 0, 0, 0, [], 0), (21, 1, .iconst 1, 0, 0, 0, [], 0), (22, 1, .ireturn, 0, 0, 0, [], 0), (23, 1, .iconst 0, 0, 0, 0, [], 0), (24, 1, .ireturn, 0, 0, 0, [], 0)]
def mt_284 : ix_M := (⟨"CryGorgeLaw", "century", "(LCryGorge;IIIII[J)I"⟩, method_27_code, 8, (Option.some FieldType.int), 7, 13, mo_284, [(0, 16, 0, 13, 7)])
def mo_285 : List ix_Op := [(0, 2, .aload 8, 0, 0, 0, [], 0), (2, 1, .iconst 0, 0, 0, 0, [], 0), (3, 1, .aload_n 0, 0, 0, 0, [], 0), (4, 1, .iload_n 1, 0, 0, 0, [], 0), (5, 1, .iload_n 2, 0, 0, 0, [], 0), (6, 1, .iload_n 3, 0, 0, 0, [], 0), (7, 2, .iload 4, 0, 0, 0, [], 0), (9, 2, .iload 5, 0, 0, 0, [], 0), (11, 2, .iload 6, 0, 0, 0, [], 0), (13, 2, .iload 7, 0, 0, 0, [], 0), (15, 3, .invokevirtual 93, 140, 0, 8, [11], 0), (18, 1, .i2l, 0, 0, 0, [], 0), (19, 1, .lastore, 0, 0, 0, [], 0), (20, 3, .goto 7, 17, 0, 0, [], 0), (23, 2, .astore 9, 0, 0, 0, [], 0), (25, 1, .iconst 1, 0, 0, 0, [], 0), (26, 1, .ireturn, 0, 0, 0, [], 0), (27, 1, .iconst 0, 0, 0, 0, [], 0), (28, 1, .ireturn, 0, 0, 0, [], 0)]
def mt_285 : ix_M := (⟨"CryGorgeLaw", "span", "(LCryGorge;IIIIIII[J)I"⟩, method_28_code, 10, (Option.some FieldType.int), 9, 13, mo_285, [(0, 20, 0, 15, 9)])
def ix_tab : List ix_M := [mt_0, mt_1, mt_2, mt_3, mt_4, mt_5, mt_6, mt_7, mt_8, mt_9, mt_10, mt_11, mt_12, mt_13, mt_14, mt_15, mt_16, mt_17, mt_18, mt_19, mt_20, mt_21, mt_22, mt_23, mt_24, mt_25, mt_26, mt_27, mt_28, mt_29, mt_30, mt_31, mt_32, mt_33, mt_34, mt_35, mt_36, mt_37, mt_38, mt_39, mt_40, mt_41, mt_42, mt_43, mt_44, mt_45, mt_46, mt_47, mt_48, mt_49, mt_50, mt_51, mt_52, mt_53, mt_54, mt_55, mt_56, mt_57, mt_58, mt_59, mt_60, mt_61, mt_62, mt_63, mt_64, mt_65, mt_66, mt_67, mt_68, mt_69, mt_70, mt_71, mt_72, mt_73, mt_74, mt_75, mt_76, mt_77, mt_78, mt_79, mt_80, mt_81, mt_82, mt_83, mt_84, mt_85, mt_86, mt_87, mt_88, mt_89, mt_90, mt_91, mt_92, mt_93, mt_94, mt_95, mt_96, mt_97, mt_98, mt_99, mt_100, mt_101, mt_102, mt_103, mt_104, mt_105, mt_106, mt_107, mt_108, mt_109, mt_110, mt_111, mt_112, mt_113, mt_114, mt_115, mt_116, mt_117, mt_118, mt_119, mt_120, mt_121, mt_122, mt_123, mt_124, mt_125, mt_126, mt_127, mt_128, mt_129, mt_130, mt_131, mt_132, mt_133, mt_134, mt_135, mt_136, mt_137, mt_138, mt_139, mt_140, mt_141, mt_142, mt_143, mt_144, mt_145, mt_146, mt_147, mt_148, mt_149, mt_150, mt_151, mt_152, mt_153, mt_154, mt_155, mt_156, mt_157, mt_158, mt_159, mt_160, mt_161, mt_162, mt_163, mt_164, mt_165, mt_166, mt_167, mt_168, mt_169, mt_170, mt_171, mt_172, mt_173, mt_174, mt_175, mt_176, mt_177, mt_178, mt_179, mt_180, mt_181, mt_182, mt_183, mt_184, mt_185, mt_186, mt_187, mt_188, mt_189, mt_190, mt_191, mt_192, mt_193, mt_194, mt_195, mt_196, mt_197, mt_198, mt_199, mt_200, mt_201, mt_202, mt_203, mt_204, mt_205, mt_206, mt_207, mt_208, mt_209, mt_210, mt_211, mt_212, mt_213, mt_214, mt_215, mt_216, mt_217, mt_218, mt_219, mt_220, mt_221, mt_222, mt_223, mt_224, mt_225, mt_226, mt_227, mt_228, mt_229, mt_230, mt_231, mt_232, mt_233, mt_234, mt_235, mt_236, mt_237, mt_238, mt_239, mt_240, mt_241, mt_242, mt_243, mt_244, mt_245, mt_246, mt_247, mt_248, mt_249, mt_250, mt_251, mt_252, mt_253, mt_254, mt_255, mt_256, mt_257, mt_258, mt_259, mt_260, mt_261, mt_262, mt_263, mt_264, mt_265, mt_266, mt_267, mt_268, mt_269, mt_270, mt_271, mt_272, mt_273, mt_274, mt_275, mt_276, mt_277, mt_278, mt_279, mt_280, mt_281, mt_282, mt_283, mt_284, mt_285]
def ix_cn (k : Nat) : String := (["CryGorge$Century", "CryGorge$Guesses", "CryGorge$Heard", "CryGorge$History", "CryGorge$Land", "CryGorge$Law", "CryGorge$Planner", "CryGorge$Reader", "CryGorge$Seasons", "CryGorge$State", "CryGorge$Work", "CryGorge", "CryGorgeModel", "CryGorgeLaw", "java/lang/Integer", "java/lang/Math"] : List String).getD k ""
def ix_flk : List (Nat × Nat × Nat × Nat × Nat) := [(0, 7, 0, 0, 0), (0, 13, 0, 1, 0), (0, 17, 0, 2, 0), (0, 21, 0, 3, 0), (0, 24, 0, 4, 0), (0, 31, 4, 7, 1), (0, 42, 4, 6, 1), (1, 11, 1, 3, 0), (1, 15, 1, 4, 0), (1, 18, 1, 5, 0), (1, 21, 1, 6, 0), (1, 24, 1, 0, 0), (1, 28, 1, 1, 0), (1, 37, 1, 2, 0), (1, 41, 1, 7, 0), (1, 45, 9, 4, 1), (1, 48, 4, 7, 1), (1, 53, 4, 6, 1), (1, 60, 4, 3, 1), (1, 63, 2, 2, 1), (1, 76, 9, 1, 1), (1, 77, 9, 2, 1), (1, 80, 9, 6, 1), (1, 89, 1, 8, 0), (1, 92, 1, 9, 0), (2, 9, 2, 0, 0), (2, 15, 2, 1, 0), (2, 18, 2, 2, 0), (3, 13, 3, 0, 0), (3, 17, 3, 1, 0), (3, 20, 3, 2, 0), (3, 23, 3, 3, 0), (3, 27, 3, 4, 0), (3, 30, 3, 5, 0), (4, 9, 4, 0, 0), (4, 15, 4, 1, 0), (4, 18, 4, 2, 0), (4, 21, 4, 3, 0), (4, 26, 4, 4, 0), (4, 29, 4, 5, 0), (4, 32, 4, 8, 0), (4, 36, 4, 9, 0), (4, 39, 4, 6, 0), (4, 42, 4, 7, 0), (5, 11, 5, 0, 0), (5, 15, 5, 1, 0), (5, 18, 5, 2, 0), (5, 21, 5, 3, 0), (5, 27, 5, 4, 0), (6, 9, 6, 2, 0), (6, 15, 6, 3, 0), (6, 18, 6, 4, 0), (6, 21, 6, 5, 0), (6, 24, 6, 0, 0), (6, 28, 6, 1, 0), (6, 32, 6, 6, 0), (6, 40, 6, 7, 0), (6, 47, 4, 7, 1), (6, 52, 4, 6, 1), (6, 68, 4, 1, 1), (7, 9, 7, 0, 0), (7, 24, 7, 1, 0), (7, 28, 7, 2, 0), (7, 31, 7, 3, 0), (7, 34, 7, 4, 0), (7, 37, 7, 5, 0), (7, 40, 7, 6, 0), (8, 9, 8, 2, 0), (8, 15, 8, 0, 0), (8, 19, 8, 1, 0), (8, 23, 9, 1, 1), (8, 28, 5, 0, 1), (8, 33, 4, 0, 1), (8, 42, 4, 2, 1), (8, 45, 9, 2, 1), (8, 48, 9, 6, 1), (8, 62, 9, 3, 1), (8, 81, 4, 7, 1), (9, 9, 9, 1, 0), (9, 15, 9, 2, 0), (9, 18, 9, 3, 0), (9, 21, 9, 0, 0), (9, 28, 4, 7, 1), (9, 34, 4, 3, 1), (9, 35, 9, 4, 0), (9, 38, 4, 9, 1), (9, 41, 9, 5, 0), (9, 44, 9, 6, 0), (9, 73, 4, 8, 1), (9, 84, 4, 1, 1), (10, 9, 10, 0, 0), (10, 15, 10, 1, 0), (10, 18, 10, 2, 0), (10, 21, 10, 3, 0), (10, 24, 10, 4, 0), (10, 53, 4, 7, 1), (10, 58, 4, 6, 1), (10, 101, 10, 5, 0), (10, 104, 10, 6, 0), (10, 119, 9, 6, 1), (11, 9, 11, 0, 0), (11, 18, 11, 1, 0), (11, 25, 11, 2, 0), (11, 29, 11, 3, 0), (11, 35, 11, 4, 0), (11, 39, 11, 5, 0), (11, 45, 11, 6, 0), (11, 49, 11, 7, 0), (11, 55, 11, 8, 0), (11, 64, 11, 9, 0), (11, 73, 11, 10, 0), (11, 77, 11, 11, 0), (11, 83, 11, 12, 0), (11, 92, 11, 13, 0), (11, 99, 11, 14, 0), (11, 106, 11, 15, 0), (11, 110, 11, 17, 0), (11, 114, 11, 16, 0), (11, 143, 4, 7, 1), (11, 174, 10, 6, 1), (11, 177, 3, 5, 1), (11, 178, 10, 5, 1), (11, 185, 2, 2, 1), (11, 205, 3, 3, 1), (11, 208, 4, 6, 1), (11, 211, 9, 6, 1), (11, 214, 4, 8, 1), (11, 217, 9, 5, 1), (11, 235, 4, 0, 1), (11, 239, 4, 1, 1), (11, 255, 4, 2, 1), (11, 258, 9, 1, 1), (11, 261, 9, 2, 1), (11, 264, 9, 3, 1), (11, 270, 4, 3, 1), (11, 275, 5, 0, 1), (11, 308, 1, 7, 1), (11, 317, 1, 8, 1), (11, 320, 1, 9, 1), (11, 330, 4, 5, 1), (11, 373, 0, 3, 1), (11, 376, 0, 4, 1), (11, 388, 3, 4, 1), (11, 394, 11, 18, 0), (11, 397, 11, 19, 0), (12, 9, 12, 3, 0), (12, 13, 12, 9, 0), (12, 17, 12, 10, 0), (12, 20, 12, 11, 0), (12, 23, 12, 12, 0), (12, 28, 12, 13, 0), (12, 31, 12, 14, 0), (12, 34, 12, 15, 0), (12, 37, 12, 16, 0), (12, 40, 12, 17, 0), (12, 43, 12, 18, 0), (12, 46, 12, 19, 0), (12, 49, 12, 22, 0), (12, 52, 12, 23, 0), (12, 55, 12, 24, 0), (12, 58, 12, 25, 0), (12, 61, 12, 26, 0), (12, 64, 12, 27, 0), (12, 67, 12, 28, 0), (12, 70, 12, 30, 0), (12, 73, 12, 31, 0), (12, 76, 12, 32, 0), (12, 79, 12, 33, 0), (12, 82, 12, 34, 0), (12, 85, 12, 42, 0), (12, 88, 12, 44, 0), (12, 91, 12, 45, 0), (12, 94, 12, 46, 0), (12, 103, 12, 0, 0), (12, 106, 12, 1, 0), (12, 109, 12, 2, 0), (12, 112, 12, 4, 0), (12, 119, 12, 5, 0), (12, 122, 12, 6, 0), (12, 159, 12, 7, 0), (12, 162, 12, 8, 0), (12, 196, 12, 20, 0), (12, 199, 12, 35, 0), (12, 202, 12, 36, 0), (12, 205, 12, 37, 0), (12, 208, 12, 38, 0), (12, 214, 12, 21, 0), (12, 255, 12, 29, 0), (12, 296, 12, 40, 0), (12, 306, 12, 41, 0), (12, 333, 12, 43, 0), (12, 370, 12, 47, 0), (12, 374, 12, 48, 0), (12, 377, 12, 49, 0), (12, 390, 12, 39, 0)]
def ix_mlk : List (Nat × Nat × Nat × Nat × Nat) := [(0, 27, 1, 0, 2), (0, 36, 89, 0, 2), (0, 45, 88, 0, 2), (0, 48, 72, 0, 2), (1, 56, 4, 0, 4), (1, 68, 11, 0, 2), (1, 72, 5, 0, 5), (1, 83, 70, 0, 5), (1, 95, 7, 0, 2), (1, 99, 8, 0, 1), (1, 103, 0, 4, 2), (2, 22, 0, 7, 5), (2, 28, 61, 0, 1), (2, 34, 64, 0, 3), (2, 38, 11, 0, 2), (2, 42, 59, 0, 2), (2, 46, 63, 0, 2), (2, 50, 56, 0, 1), (3, 33, 14, 0, 1), (3, 37, 75, 0, 3), (3, 41, 76, 0, 3), (3, 44, 0, 7, 5), (4, 45, 61, 0, 1), (4, 51, 20, 0, 3), (4, 55, 63, 0, 2), (4, 59, 28, 0, 1), (4, 62, 65, 0, 1), (4, 67, 66, 0, 2), (4, 71, 22, 0, 3), (4, 76, 23, 0, 3), (4, 80, 24, 0, 3), (4, 84, 21, 1, 2), (4, 87, 64, 0, 3), (4, 92, 59, 0, 2), (4, 96, 56, 0, 1), (4, 99, 25, 0, 2), (4, 103, 0, 7, 5), (4, 109, 29, 1, 2), (4, 112, 30, 1, 2), (4, 115, 0, 4, 2), (4, 120, 0, 5, 2), (4, 123, 33, 0, 3), (4, 126, 259, 1, 1), (4, 132, 35, 0, 2), (4, 135, 31, 0, 2), (4, 138, 0, 6, 1), (5, 31, 39, 0, 3), (5, 35, 0, 7, 5), (5, 41, 41, 0, 2), (5, 45, 61, 0, 1), (5, 51, 59, 0, 2), (5, 55, 42, 0, 2), (5, 58, 56, 0, 1), (5, 61, 62, 0, 2), (5, 65, 43, 0, 2), (5, 68, 60, 0, 1), (5, 72, 69, 1, 1), (5, 76, 64, 0, 3), (5, 80, 67, 0, 1), (5, 83, 63, 0, 2), (5, 87, 68, 0, 1), (5, 90, 65, 0, 1), (5, 95, 66, 0, 2), (5, 99, 44, 0, 3), (5, 105, 45, 1, 1), (5, 125, 47, 0, 2), (5, 129, 48, 1, 3), (5, 133, 0, 5, 2), (5, 138, 0, 4, 2), (6, 36, 51, 0, 3), (6, 43, 53, 0, 2), (6, 55, 52, 1, 3), (6, 59, 70, 0, 5), (6, 65, 54, 0, 1), (6, 71, 0, 7, 5), (7, 15, 0, 5, 2), (7, 21, 0, 4, 2), (7, 43, 56, 0, 1), (7, 47, 60, 0, 1), (7, 51, 59, 0, 2), (7, 55, 69, 1, 1), (7, 60, 900, 0, 1), (7, 64, 901, 0, 2), (8, 38, 84, 0, 2), (8, 52, 46, 0, 1), (8, 56, 0, 5, 2), (8, 65, 25, 0, 2), (8, 69, 77, 0, 2), (8, 72, 259, 1, 1), (8, 77, 70, 0, 5), (8, 84, 71, 0, 3), (9, 47, 0, 7, 5), (9, 53, 77, 0, 2), (9, 57, 83, 0, 3), (9, 61, 81, 0, 2), (9, 64, 0, 5, 2), (9, 69, 26, 0, 2), (9, 76, 25, 0, 2), (9, 79, 259, 1, 1), (9, 87, 84, 0, 2), (9, 90, 85, 0, 2), (10, 28, 94, 0, 3), (10, 32, 61, 0, 1), (10, 38, 59, 0, 2), (10, 42, 60, 0, 1), (10, 46, 95, 0, 3), (10, 49, 63, 0, 2), (10, 61, 65, 0, 1), (10, 66, 66, 0, 2), (10, 70, 64, 0, 3), (10, 74, 92, 0, 4), (10, 92, 96, 0, 3), (10, 95, 67, 0, 1), (10, 98, 68, 0, 1), (10, 108, 99, 0, 2), (10, 112, 98, 0, 2), (10, 115, 100, 0, 4), (10, 123, 101, 0, 3), (10, 127, 72, 0, 2), (10, 133, 86, 0, 3), (10, 137, 87, 0, 2), (10, 141, 88, 0, 2), (10, 144, 89, 0, 2), (10, 147, 90, 0, 3), (10, 150, 91, 0, 2), (11, 117, 103, 0, 2), (11, 121, 109, 0, 3), (11, 125, 19, 0, 2), (11, 129, 110, 0, 1), (11, 133, 57, 0, 1), (11, 137, 27, 0, 2), (11, 140, 105, 0, 1), (11, 146, 37, 0, 1), (11, 149, 9, 0, 1), (11, 152, 13, 0, 1), (11, 153, 73, 0, 1), (11, 156, 40, 0, 2), (11, 157, 38, 0, 2), (11, 160, 14, 0, 1), (11, 163, 93, 0, 3), (11, 166, 15, 0, 2), (11, 170, 97, 0, 3), (11, 181, 12, 0, 2), (11, 182, 10, 0, 2), (11, 188, 146, 0, 2), (11, 192, 55, 0, 2), (11, 195, 56, 0, 1), (11, 198, 58, 0, 1), (11, 201, 16, 0, 2), (11, 220, 78, 0, 1), (11, 223, 79, 0, 1), (11, 226, 80, 0, 1), (11, 229, 82, 0, 1), (11, 232, 149, 0, 2), (11, 242, 77, 0, 2), (11, 246, 84, 0, 2), (11, 249, 31, 0, 2), (11, 252, 150, 0, 2), (11, 266, 71, 0, 3), (11, 271, 147, 0, 4), (11, 278, 46, 0, 1), (11, 281, 74, 0, 2), (11, 283, 72, 0, 2), (11, 286, 122, 0, 2), (11, 289, 50, 0, 3), (11, 293, 259, 1, 1), (11, 298, 49, 0, 2), (11, 301, 148, 0, 3), (11, 304, 3, 0, 3), (11, 311, 2, 0, 1), (11, 314, 6, 0, 2), (11, 323, 36, 0, 3), (11, 327, 81, 0, 2), (11, 334, 32, 0, 3), (11, 337, 33, 2, 3), (11, 340, 34, 0, 1), (11, 343, 132, 1, 4), (11, 347, 133, 1, 3), (11, 351, 83, 0, 3), (11, 354, 0, 5, 2), (11, 359, 70, 0, 5), (11, 363, 85, 0, 2), (11, 367, 141, 0, 4), (11, 370, 0, 0, 6), (11, 379, 26, 0, 2), (11, 382, 0, 4, 2), (11, 385, 17, 0, 2), (11, 391, 18, 0, 2), (11, 407, 25, 0, 2), (11, 410, 151, 0, 2), (12, 97, 152, 0, 1), (12, 100, 180, 0, 1), (12, 115, 160, 0, 2), (12, 125, 161, 0, 1), (12, 128, 163, 1, 1), (12, 132, 162, 0, 3), (12, 137, 155, 1, 3), (12, 141, 164, 1, 1), (12, 144, 166, 0, 1), (12, 148, 167, 1, 6), (12, 152, 168, 0, 7), (12, 156, 169, 0, 1), (12, 165, 175, 0, 1), (12, 168, 165, 0, 3), (12, 172, 171, 0, 2), (12, 176, 154, 0, 4), (12, 180, 173, 0, 2), (12, 183, 176, 0, 1), (12, 186, 174, 0, 1), (12, 189, 178, 1, 3), (12, 193, 181, 0, 1), (12, 211, 156, 1, 2), (12, 217, 185, 0, 1), (12, 220, 172, 0, 2), (12, 223, 182, 0, 3), (12, 226, 188, 0, 1), (12, 229, 170, 0, 7), (12, 232, 187, 0, 1), (12, 236, 183, 0, 1), (12, 239, 184, 0, 1), (12, 242, 186, 0, 1), (12, 245, 157, 1, 2), (12, 248, 190, 1, 3), (12, 252, 192, 0, 1), (12, 258, 193, 0, 1), (12, 261, 191, 0, 1), (12, 264, 198, 0, 9), (12, 268, 196, 0, 3), (12, 272, 199, 0, 8), (12, 276, 200, 0, 3), (12, 279, 197, 0, 3), (12, 282, 202, 1, 2), (12, 286, 203, 1, 2), (12, 289, 204, 0, 3), (12, 292, 201, 0, 2), (12, 299, 206, 0, 3), (12, 302, 205, 0, 3), (12, 309, 179, 1, 2), (12, 313, 210, 0, 2), (12, 317, 209, 0, 2), (12, 320, 212, 0, 2), (12, 323, 215, 0, 2), (12, 326, 213, 0, 2), (12, 329, 158, 1, 2), (12, 336, 222, 0, 3), (12, 339, 214, 0, 2), (12, 342, 224, 1, 1), (12, 345, 223, 0, 2), (12, 348, 227, 0, 4), (12, 351, 228, 0, 3), (12, 354, 230, 0, 2), (12, 357, 232, 0, 3), (12, 360, 239, 1, 3), (12, 363, 240, 1, 4), (12, 367, 242, 0, 3), (12, 380, 248, 0, 2), (12, 383, 250, 1, 3), (12, 386, 249, 0, 5), (12, 393, 253, 0, 4), (12, 397, 254, 0, 3), (13, 7, 104, 0, 2), (13, 15, 106, 0, 2), (13, 18, 107, 0, 2), (13, 21, 108, 0, 2), (13, 24, 113, 0, 2), (13, 27, 114, 0, 3), (13, 33, 115, 0, 3), (13, 36, 116, 0, 9), (13, 40, 117, 0, 3), (13, 43, 118, 0, 2), (13, 46, 119, 0, 2), (13, 49, 120, 0, 2), (13, 52, 121, 0, 3), (13, 55, 123, 0, 2), (13, 58, 124, 0, 2), (13, 61, 125, 0, 3), (13, 64, 126, 0, 3), (13, 67, 127, 0, 3), (13, 70, 128, 0, 4), (13, 74, 129, 0, 3), (13, 77, 131, 0, 4), (13, 80, 134, 0, 4), (13, 83, 135, 0, 2), (13, 86, 136, 0, 3), (13, 89, 139, 0, 6), (13, 93, 140, 0, 8)]
def ix_cks : List (Nat × Nat × Int32) := [(0, 54, 1103515245), (7, 59, 1000000), (10, 107, 100000), (12, 136, 100000), (12, 373, 1103515245), (14, 265, 1431655765), (14, 266, 858993459), (14, 267, 252645135)]
def ix_sks : List (Nat × Nat × Nat) := [(4, 65, 2004), (4, 74, 2005), (4, 79, 2016), (4, 83, 2019), (4, 91, 2007), (5, 93, 2010), (5, 103, 2013), (5, 109, 2006), (5, 111, 2012), (5, 113, 2007), (5, 115, 2018), (5, 117, 2017), (5, 119, 2001), (5, 121, 2004), (5, 123, 2020), (10, 64, 2009), (10, 78, 2007), (10, 80, 2003), (10, 82, 2011), (10, 84, 2008), (10, 86, 2015), (10, 88, 2020), (10, 90, 2000)]
end
section
def ix_T (ci : Nat) : u_T := (vwCl.getD ci ("", fun _ => ("", "", "", false), 0)).2.1
def ix_N (ci : Nat) : Nat := (vwCl.getD ci ("", fun _ => ("", "", "", false), 0)).2.2
def ix_fw (e : Nat × Nat × Nat × Nat × Nat) : Cond :=
  if e.2.2.2.2 = 0 then .fieldLink (ix_cn e.1) e.2.1 (ix_T e.2.2.1 e.2.2.2.1).1 (ix_T e.2.2.1 e.2.2.2.1).2.1 (ix_T e.2.2.1 e.2.2.2.1).2.2.1
  else .fieldLinkNest (ix_cn e.1) e.2.1 (ix_T e.2.2.1 e.2.2.2.1).1 (ix_T e.2.2.1 e.2.2.2.1).2.1 (ix_T e.2.2.1 e.2.2.2.1).2.2.1 "CryGorge"
def ix_lenof : Instr → Nat
  | .iload _ => 2
  | .aload _ => 2
  | .istore _ => 2
  | .astore _ => 2
  | .bipush _ => 2
  | .ldc _ => 2
  | .sipush _ => 3
  | .ldc_w _ => 3
  | .iinc _ _ => 3
  | .goto _ => 3
  | .ifCond _ _ => 3
  | .if_icmp _ _ => 3
  | .getfield _ => 3
  | .putfield _ => 3
  | .invokevirtual _ => 3
  | .invokestatic _ => 3
  | .new _ => 3
  | .tableswitch _ _ _ _ => 0
  | .invokespecial _ => 3
  | .newarray _ => 2
  | .multianewarray _ _ => 4
  | _ => 1
def ix_jmp (ops : List ix_Op) (pc t : Nat) (off : Int) : Bool := match ops[t]? with
  | some o' => decide ((pc : Int) + off = (ix_pc o' : Int))
  | none => false
def ix_res (own : Nat) (bytes : ByteArray) (ops : List ix_Op) (o : ix_Op) : Bool := match ix_ins o with
  | .getfield idx => decide ((own, idx, ix_x o, ix_y o, ix_z o) ∈ ix_flk)
  | .putfield idx => decide ((own, idx, ix_x o, ix_y o, ix_z o) ∈ ix_flk)
  | .goto off => ix_jmp ops (ix_pc o) (ix_x o) off
  | .ifCond _ off => ix_jmp ops (ix_pc o) (ix_x o) off
  | .if_icmp _ off => ix_jmp ops (ix_pc o) (ix_x o) off
  | .tableswitch d lo hi offs => ix_jmp ops (ix_pc o) (ix_x o) d && decide ((offs.size : Int) = hi - lo + 1) && decide ((ix_tl o).length = offs.size) && (List.range offs.size).all (fun j => ix_jmp ops (ix_pc o) ((ix_tl o).getD j 0) (offs.getD j 0))
  | .invokevirtual idx => decide (ix_tl o = [(ix_tab[ix_x o]?.map ix_mc).getD 99]) && decide (ix_y o = 0 ∨ ix_y o = 2) && decide ((own, idx, ix_x o, ix_y o, ix_z o) ∈ ix_mlk)
  | .invokestatic idx => decide (ix_y o = 1 ∨ (3 ≤ ix_y o ∧ ix_y o ≤ 7)) && decide ((own, idx, ix_x o, ix_y o, ix_z o) ∈ ix_mlk)
  | .ldc idx => if ix_z o = 0 then decide ((own, idx, ix_v o) ∈ ix_cks) else if ix_z o = 1 then decide ((own, idx, ix_x o) ∈ ix_sks) else true
  | .ldc_w idx => if ix_z o = 0 then decide ((own, idx, ix_v o) ∈ ix_cks) else true
  | .new ik => if ix_y o = 1 then decide (own = 11) && decide (decode bytes (ix_pc o + 3) = .ok (.dup, 1)) && decide (decode bytes (ix_pc o + 10) = .ok (.athrow, 1)) &&
      ((decide (ix_x o = 0) && decide (ik = 400) && decide (decode bytes (ix_pc o + 4) = .ok (.ldc_w 402, 3)) && decide (decode bytes (ix_pc o + 7) = .ok (.invokespecial 404, 3))) ||
       (decide (ix_x o = 1) && decide (ik = 413) && decide (decode bytes (ix_pc o + 4) = .ok (.ldc_w 415, 3)) && decide (decode bytes (ix_pc o + 7) = .ok (.invokespecial 417, 3)))) else true
  | _ => true
def ix_ok1 (own : Nat) (bytes : ByteArray) (ops : List ix_Op) (o : ix_Op) : Bool :=
  decide (decode bytes (ix_pc o) = .ok (ix_ins o, ix_len o)) && (decide (ix_lenof (ix_ins o) = ix_len o) || decide (ix_lenof (ix_ins o) = 0)) && ix_res own bytes ops o
def ix_chain : List ix_Op → Bool
  | o :: o' :: l => decide (ix_pc o' = ix_pc o + ix_len o) && ix_chain (o' :: l)
  | _ => true
def ix_okm (M : ix_M) : Bool := (ix_mo M).all (ix_ok1 (ix_mc M) (ix_mb M) (ix_mo M)) && ix_chain (ix_mo M) && decide (((ix_mo M).head?.map ix_pc) = some 0) && decide (ix_ma M ≤ ix_ml M) && decide (ix_ml M ≤ 22) && decide (ix_cn (ix_mc M) = (ix_my M).cls)
def ix_cal (mi : Nat) : Option (MethodName × ByteArray × Nat × Option FieldType) := match ix_tab[mi]? with
  | some M => some (ix_my M, ix_mb M, ix_ml M, ix_mr M)
  | none => if mi = 900 then some (⟨"java/lang/String", "length", "()I"⟩, prog_23_method_54_code, 1, some .int) else if mi = 901 then some (⟨"java/lang/String", "charAt", "(I)C"⟩, prog_23_method_56_code, 2, some .char) else none
def ix_ar (e : Nat × Nat × Nat × Nat × Nat) : Bool := decide (4 ≤ e.2.2.2.1) || (match ix_cal e.2.2.1 with
  | none => false
  | some q => decide ((parseMethodDescriptor q.1.desc).map (fun d => d.parameters.length) = some (if e.2.2.2.1 = 0 ∨ e.2.2.2.1 = 2 then e.2.2.2.2 - 1 else e.2.2.2.2)) && decide (q.1.cls ≠ "java/lang/invoke/MethodHandle" ∧ q.1.cls ≠ "java/lang/invoke/VarHandle") && decide (q.2.2.1 ≤ 22) && (decide (e.2.2.2.1 = 1 ∨ e.2.2.2.1 = 3) || decide (1 ≤ e.2.2.2.2)))
def ix_okr (M : ix_M) : Bool := match ix_mr M with
  | none => (ix_mo M).all (fun o => decide (ix_ins o ≠ .ireturn))
  | some ty => (ix_mo M).all (fun o => decide (ix_ins o ≠ .return_)) && (decide (ty = .int) || (decide (ty = .boolean) && (ix_mo M).all (fun o => decide (ix_ins o ≠ .ireturn) || decide (ix_x o = 1))))
end
section
def ix_sub : List Cond → List Cond → Bool
  | [], _ => true
  | _ :: _, [] => false
  | w :: ws, t :: ts => if w = t then ix_sub ws ts else ix_sub (w :: ws) ts
theorem ix_sub_ok : ∀ (t ws : List Cond), ix_sub ws t = true → ∀ w ∈ ws, w ∈ t
  | [], [], _, w, hw => by cases hw
  | [], _ :: _, h, _, _ => by simp [ix_sub] at h
  | _ :: _, [], _, w, hw => by cases hw
  | t :: ts, w0 :: ws, h, w, hw => by
    rw [ix_sub] at h
    by_cases e : w0 = t
    · rw [if_pos e] at h
      rcases List.mem_cons.mp hw with rfl | hw
      · rw [e]; exact List.mem_cons_self
      · exact List.mem_cons_of_mem _ (ix_sub_ok ts ws h w hw)
    · rw [if_neg e] at h
      exact List.mem_cons_of_mem _ (ix_sub_ok ts (w0 :: ws) h w hw)
theorem ix_tbl {w : Cond} (h : w ∈ tables_1) : w ∈ lw_tbl := List.mem_append_right _ h
def ix_y0 (mi : Nat) : MethodName := ((ix_cal mi).map (fun q => q.1)).getD ⟨"", "", ""⟩
def ix_flS : List (Nat × Nat × Nat × Nat × Nat) := [(7, 9, 7, 0, 0), (7, 24, 7, 1, 0), (7, 28, 7, 2, 0), (7, 31, 7, 3, 0), (7, 34, 7, 4, 0), (7, 37, 7, 5, 0), (7, 40, 7, 6, 0), (4, 9, 4, 0, 0), (8, 33, 4, 0, 1), (11, 235, 4, 0, 1), (4, 15, 4, 1, 0), (6, 68, 4, 1, 1), (11, 239, 4, 1, 1), (9, 84, 4, 1, 1), (4, 18, 4, 2, 0), (8, 42, 4, 2, 1), (11, 255, 4, 2, 1), (4, 21, 4, 3, 0), (9, 34, 4, 3, 1), (1, 60, 4, 3, 1), (11, 270, 4, 3, 1), (4, 26, 4, 4, 0), (4, 29, 4, 5, 0), (11, 330, 4, 5, 1), (4, 39, 4, 6, 0), (0, 42, 4, 6, 1), (1, 53, 4, 6, 1), (6, 52, 4, 6, 1), (10, 58, 4, 6, 1), (11, 208, 4, 6, 1), (4, 42, 4, 7, 0), (9, 28, 4, 7, 1), (0, 31, 4, 7, 1), (1, 48, 4, 7, 1), (8, 81, 4, 7, 1), (6, 47, 4, 7, 1), (11, 143, 4, 7, 1), (10, 53, 4, 7, 1), (4, 32, 4, 8, 0), (11, 214, 4, 8, 1), (9, 73, 4, 8, 1), (4, 36, 4, 9, 0), (9, 38, 4, 9, 1), (5, 11, 5, 0, 0), (8, 28, 5, 0, 1), (11, 275, 5, 0, 1), (5, 15, 5, 1, 0), (5, 18, 5, 2, 0), (5, 21, 5, 3, 0), (5, 27, 5, 4, 0), (2, 9, 2, 0, 0), (2, 15, 2, 1, 0), (2, 18, 2, 2, 0), (1, 63, 2, 2, 1), (11, 185, 2, 2, 1), (10, 9, 10, 0, 0), (10, 15, 10, 1, 0), (10, 18, 10, 2, 0), (10, 21, 10, 3, 0), (10, 24, 10, 4, 0), (10, 101, 10, 5, 0), (11, 178, 10, 5, 1), (10, 104, 10, 6, 0), (11, 174, 10, 6, 1), (8, 15, 8, 0, 0), (8, 19, 8, 1, 0), (8, 9, 8, 2, 0), (9, 21, 9, 0, 0), (9, 9, 9, 1, 0), (8, 23, 9, 1, 1), (1, 76, 9, 1, 1), (11, 258, 9, 1, 1), (9, 15, 9, 2, 0), (8, 45, 9, 2, 1), (1, 77, 9, 2, 1), (11, 261, 9, 2, 1), (9, 18, 9, 3, 0), (8, 62, 9, 3, 1), (11, 264, 9, 3, 1), (9, 35, 9, 4, 0), (1, 45, 9, 4, 1), (9, 41, 9, 5, 0), (11, 217, 9, 5, 1), (9, 44, 9, 6, 0), (8, 48, 9, 6, 1), (1, 80, 9, 6, 1), (10, 119, 9, 6, 1), (11, 211, 9, 6, 1), (3, 13, 3, 0, 0), (3, 17, 3, 1, 0), (3, 20, 3, 2, 0), (3, 23, 3, 3, 0), (11, 205, 3, 3, 1), (3, 27, 3, 4, 0), (11, 388, 3, 4, 1), (3, 30, 3, 5, 0), (11, 177, 3, 5, 1), (6, 24, 6, 0, 0), (6, 28, 6, 1, 0), (6, 9, 6, 2, 0), (6, 15, 6, 3, 0), (6, 18, 6, 4, 0), (6, 21, 6, 5, 0), (6, 32, 6, 6, 0), (6, 40, 6, 7, 0), (1, 24, 1, 0, 0), (1, 28, 1, 1, 0), (1, 37, 1, 2, 0), (1, 11, 1, 3, 0), (1, 15, 1, 4, 0), (1, 18, 1, 5, 0), (1, 21, 1, 6, 0), (1, 41, 1, 7, 0), (11, 308, 1, 7, 1), (1, 89, 1, 8, 0), (11, 317, 1, 8, 1), (1, 92, 1, 9, 0), (11, 320, 1, 9, 1), (0, 7, 0, 0, 0), (0, 13, 0, 1, 0), (0, 17, 0, 2, 0), (0, 21, 0, 3, 0), (11, 373, 0, 3, 1), (0, 24, 0, 4, 0), (11, 376, 0, 4, 1), (11, 9, 11, 0, 0), (11, 18, 11, 1, 0), (11, 25, 11, 2, 0), (11, 29, 11, 3, 0), (11, 35, 11, 4, 0), (11, 39, 11, 5, 0), (11, 45, 11, 6, 0), (11, 49, 11, 7, 0), (11, 55, 11, 8, 0), (11, 64, 11, 9, 0), (11, 73, 11, 10, 0), (11, 77, 11, 11, 0), (11, 83, 11, 12, 0), (11, 92, 11, 13, 0), (11, 99, 11, 14, 0), (11, 106, 11, 15, 0), (11, 114, 11, 16, 0), (11, 110, 11, 17, 0), (11, 394, 11, 18, 0), (11, 397, 11, 19, 0), (12, 103, 12, 0, 0), (12, 106, 12, 1, 0), (12, 109, 12, 2, 0), (12, 9, 12, 3, 0), (12, 112, 12, 4, 0), (12, 119, 12, 5, 0), (12, 122, 12, 6, 0), (12, 159, 12, 7, 0), (12, 162, 12, 8, 0), (12, 13, 12, 9, 0), (12, 17, 12, 10, 0), (12, 20, 12, 11, 0), (12, 23, 12, 12, 0), (12, 28, 12, 13, 0), (12, 31, 12, 14, 0), (12, 34, 12, 15, 0), (12, 37, 12, 16, 0), (12, 40, 12, 17, 0), (12, 43, 12, 18, 0), (12, 46, 12, 19, 0), (12, 196, 12, 20, 0), (12, 214, 12, 21, 0), (12, 49, 12, 22, 0), (12, 52, 12, 23, 0), (12, 55, 12, 24, 0), (12, 58, 12, 25, 0), (12, 61, 12, 26, 0), (12, 64, 12, 27, 0), (12, 67, 12, 28, 0), (12, 255, 12, 29, 0), (12, 70, 12, 30, 0), (12, 73, 12, 31, 0), (12, 76, 12, 32, 0), (12, 79, 12, 33, 0), (12, 82, 12, 34, 0), (12, 199, 12, 35, 0), (12, 202, 12, 36, 0), (12, 205, 12, 37, 0), (12, 208, 12, 38, 0), (12, 390, 12, 39, 0), (12, 296, 12, 40, 0), (12, 306, 12, 41, 0), (12, 85, 12, 42, 0), (12, 333, 12, 43, 0), (12, 88, 12, 44, 0), (12, 91, 12, 45, 0), (12, 94, 12, 46, 0), (12, 370, 12, 47, 0), (12, 374, 12, 48, 0), (12, 377, 12, 49, 0)]
def ix_mkS : List (Nat × Nat × Nat × Nat × Nat) := [(5, 31, 39, 0, 3), (11, 117, 103, 0, 2), (11, 201, 16, 0, 2), (3, 41, 76, 0, 3), (11, 340, 34, 0, 1), (4, 126, 259, 1, 1), (4, 132, 35, 0, 2), (4, 135, 31, 0, 2), (11, 363, 85, 0, 2), (9, 69, 26, 0, 2), (11, 242, 77, 0, 2), (11, 293, 259, 1, 1), (11, 385, 17, 0, 2), (3, 37, 75, 0, 3), (11, 391, 18, 0, 2), (13, 7, 104, 0, 2), (11, 121, 109, 0, 3), (11, 188, 146, 0, 2), (11, 192, 55, 0, 2), (11, 125, 19, 0, 2), (4, 45, 61, 0, 1), (7, 43, 56, 0, 1), (7, 47, 60, 0, 1), (4, 51, 20, 0, 3), (4, 62, 65, 0, 1), (4, 67, 66, 0, 2), (7, 60, 900, 0, 1), (7, 64, 901, 0, 2), (4, 71, 22, 0, 3), (4, 84, 21, 1, 2), (4, 92, 59, 0, 2), (4, 87, 64, 0, 3), (7, 55, 69, 1, 1), (7, 51, 59, 0, 2), (4, 96, 56, 0, 1), (4, 76, 23, 0, 3), (4, 80, 24, 0, 3), (4, 99, 25, 0, 2), (4, 55, 63, 0, 2), (4, 59, 28, 0, 1), (4, 109, 29, 1, 2), (4, 112, 30, 1, 2), (11, 129, 110, 0, 1), (11, 195, 56, 0, 1), (11, 198, 58, 0, 1), (11, 133, 57, 0, 1), (11, 137, 27, 0, 2), (11, 140, 105, 0, 1), (11, 146, 37, 0, 1), (11, 149, 9, 0, 1), (11, 152, 13, 0, 1), (11, 153, 73, 0, 1), (13, 15, 106, 0, 2), (11, 156, 40, 0, 2), (5, 41, 41, 0, 2), (5, 55, 42, 0, 2), (5, 65, 43, 0, 2), (5, 58, 56, 0, 1), (5, 68, 60, 0, 1), (5, 72, 69, 1, 1), (5, 76, 64, 0, 3), (5, 61, 62, 0, 2), (5, 80, 67, 0, 1), (5, 83, 63, 0, 2), (5, 87, 68, 0, 1), (5, 90, 65, 0, 1), (5, 95, 66, 0, 2), (5, 99, 44, 0, 3), (5, 105, 45, 1, 1), (5, 51, 59, 0, 2), (5, 45, 61, 0, 1), (11, 157, 38, 0, 2), (13, 18, 107, 0, 2), (11, 160, 14, 0, 1), (11, 163, 93, 0, 3), (10, 28, 94, 0, 3), (10, 32, 61, 0, 1), (10, 42, 60, 0, 1), (10, 46, 95, 0, 3), (10, 61, 65, 0, 1), (10, 66, 66, 0, 2), (10, 70, 64, 0, 3), (10, 74, 92, 0, 4), (10, 92, 96, 0, 3), (10, 95, 67, 0, 1), (10, 49, 63, 0, 2), (10, 98, 68, 0, 1), (10, 38, 59, 0, 2), (11, 166, 15, 0, 2), (3, 33, 14, 0, 1), (11, 170, 97, 0, 3), (10, 108, 99, 0, 2), (10, 112, 98, 0, 2), (10, 115, 100, 0, 4), (10, 123, 101, 0, 3), (10, 133, 86, 0, 3), (9, 76, 25, 0, 2), (9, 53, 77, 0, 2), (9, 79, 259, 1, 1), (10, 137, 87, 0, 2), (9, 87, 84, 0, 2), (10, 141, 88, 0, 2), (10, 144, 89, 0, 2), (10, 147, 90, 0, 3), (10, 150, 91, 0, 2), (9, 90, 85, 0, 2), (10, 127, 72, 0, 2), (8, 84, 71, 0, 3), (8, 65, 25, 0, 2), (8, 69, 77, 0, 2), (8, 72, 259, 1, 1), (8, 77, 70, 0, 5), (8, 38, 84, 0, 2), (8, 52, 46, 0, 1), (5, 125, 47, 0, 2), (5, 129, 48, 1, 3), (13, 21, 108, 0, 2), (11, 181, 12, 0, 2), (2, 28, 61, 0, 1), (2, 34, 64, 0, 3), (2, 38, 11, 0, 2), (2, 42, 59, 0, 2), (2, 46, 63, 0, 2), (2, 50, 56, 0, 1), (11, 182, 10, 0, 2), (13, 24, 113, 0, 2), (11, 220, 78, 0, 1), (11, 223, 79, 0, 1), (11, 226, 80, 0, 1), (11, 229, 82, 0, 1), (9, 61, 81, 0, 2), (9, 57, 83, 0, 3), (13, 27, 114, 0, 3), (11, 232, 149, 0, 2), (11, 407, 25, 0, 2), (11, 410, 151, 0, 2), (11, 246, 84, 0, 2), (11, 249, 31, 0, 2), (13, 33, 115, 0, 3), (11, 252, 150, 0, 2), (11, 379, 26, 0, 2), (11, 266, 71, 0, 3), (13, 36, 116, 0, 9), (11, 271, 147, 0, 4), (11, 278, 46, 0, 1), (13, 40, 117, 0, 3), (11, 281, 74, 0, 2), (11, 283, 72, 0, 2), (13, 43, 118, 0, 2), (13, 46, 119, 0, 2), (13, 49, 120, 0, 2), (11, 286, 122, 0, 2), (11, 301, 148, 0, 3), (11, 289, 50, 0, 3), (6, 36, 51, 0, 3), (6, 55, 52, 1, 3), (6, 59, 70, 0, 5), (6, 43, 53, 0, 2), (6, 65, 54, 0, 1), (13, 52, 121, 0, 3), (11, 298, 49, 0, 2), (13, 55, 123, 0, 2), (11, 304, 3, 0, 3), (1, 56, 4, 0, 4), (1, 68, 11, 0, 2), (1, 72, 5, 0, 5), (1, 83, 70, 0, 5), (11, 311, 2, 0, 1), (13, 58, 124, 0, 2), (11, 314, 6, 0, 2), (1, 95, 7, 0, 2), (1, 99, 8, 0, 1), (13, 61, 125, 0, 3), (11, 323, 36, 0, 3), (13, 64, 126, 0, 3), (13, 67, 127, 0, 3), (11, 327, 81, 0, 2), (13, 70, 128, 0, 4), (11, 334, 32, 0, 3), (13, 74, 129, 0, 3), (11, 337, 33, 2, 3), (4, 123, 33, 0, 3), (13, 77, 131, 0, 4), (11, 343, 132, 1, 4), (11, 347, 133, 1, 3), (13, 80, 134, 0, 4), (11, 351, 83, 0, 3), (13, 83, 135, 0, 2), (13, 86, 136, 0, 3), (11, 359, 70, 0, 5), (13, 89, 139, 0, 6), (11, 367, 141, 0, 4), (11, 370, 0, 0, 6), (0, 27, 1, 0, 2), (0, 36, 89, 0, 2), (0, 45, 88, 0, 2), (0, 48, 72, 0, 2), (13, 93, 140, 0, 8), (12, 97, 152, 0, 1), (12, 100, 180, 0, 1), (12, 189, 178, 1, 3), (12, 193, 181, 0, 1), (12, 211, 156, 1, 2), (12, 137, 155, 1, 3), (12, 176, 154, 0, 4), (12, 180, 173, 0, 2), (12, 125, 161, 0, 1), (12, 115, 160, 0, 2), (12, 183, 176, 0, 1), (12, 165, 175, 0, 1), (12, 152, 168, 0, 7), (12, 144, 166, 0, 1), (12, 141, 164, 1, 1), (12, 148, 167, 1, 6), (12, 132, 162, 0, 3), (12, 156, 169, 0, 1), (12, 168, 165, 0, 3), (12, 128, 163, 1, 1), (12, 172, 171, 0, 2), (12, 186, 174, 0, 1), (12, 239, 184, 0, 1), (12, 217, 185, 0, 1), (12, 226, 188, 0, 1), (12, 236, 183, 0, 1), (12, 223, 182, 0, 3), (12, 242, 186, 0, 1), (12, 229, 170, 0, 7), (12, 232, 187, 0, 1), (12, 220, 172, 0, 2), (12, 258, 193, 0, 1), (12, 252, 192, 0, 1), (12, 309, 179, 1, 2), (12, 299, 206, 0, 3), (12, 302, 205, 0, 3), (12, 279, 197, 0, 3), (12, 282, 202, 1, 2), (12, 286, 203, 1, 2), (12, 289, 204, 0, 3), (12, 292, 201, 0, 2), (12, 276, 200, 0, 3), (12, 268, 196, 0, 3), (12, 272, 199, 0, 8), (12, 264, 198, 0, 9), (12, 261, 191, 0, 1), (12, 248, 190, 1, 3), (12, 245, 157, 1, 2), (12, 313, 210, 0, 2), (12, 317, 209, 0, 2), (12, 320, 212, 0, 2), (12, 323, 215, 0, 2), (12, 326, 213, 0, 2), (12, 339, 214, 0, 2), (12, 342, 224, 1, 1), (12, 345, 223, 0, 2), (12, 336, 222, 0, 3), (12, 329, 158, 1, 2), (12, 351, 228, 0, 3), (12, 348, 227, 0, 4), (12, 354, 230, 0, 2), (12, 357, 232, 0, 3), (12, 363, 240, 1, 4), (12, 360, 239, 1, 3), (12, 367, 242, 0, 3), (12, 383, 250, 1, 3), (12, 386, 249, 0, 5), (12, 380, 248, 0, 2), (12, 397, 254, 0, 3), (12, 393, 253, 0, 4)]
def ix_acS : List (Nat × Nat) := [(9, 47), (3, 44), (4, 103), (5, 35), (2, 22), (6, 71)]
def ix_viS : List Nat := [37, 39, 73, 102, 103, 111, 112, 16, 76, 130, 34, 35, 31, 137, 85, 26, 138, 77, 142, 17, 75, 143, 18, 144, 145, 104, 109, 146, 55, 19, 61, 56, 60, 20, 65, 66, 900, 901, 22, 59, 64, 23, 24, 25, 63, 28, 110, 58, 57, 27, 105, 9, 13, 106, 40, 41, 42, 43, 62, 67, 68, 44, 38, 107, 14, 93, 94, 95, 92, 96, 15, 97, 99, 98, 100, 101, 86, 87, 84, 88, 89, 90, 91, 72, 71, 70, 46, 47, 108, 12, 11, 10, 113, 78, 79, 80, 82, 81, 83, 114, 149, 151, 115, 150, 116, 147, 117, 74, 118, 119, 120, 122, 148, 50, 51, 53, 54, 121, 49, 123, 3, 4, 5, 2, 124, 6, 7, 8, 125, 36, 126, 127, 128, 32, 129, 33, 131, 134, 135, 136, 139, 141, 0, 1, 140, 152, 180, 181, 153, 159, 177, 154, 173, 161, 160, 176, 175, 168, 166, 162, 169, 165, 171, 174, 189, 184, 185, 188, 183, 182, 186, 170, 187, 172, 194, 195, 207, 193, 192, 206, 205, 197, 204, 201, 200, 196, 199, 198, 191, 208, 211, 210, 209, 216, 212, 215, 217, 213, 218, 219, 220, 221, 225, 214, 223, 222, 226, 229, 228, 227, 231, 230, 233, 232, 234, 235, 236, 237, 238, 241, 243, 242, 244, 245, 246, 247, 251, 249, 248, 252, 255, 254, 253, 256, 257, 258]
def ix_stS : List Nat := [259, 260, 21, 69, 29, 30, 261, 45, 262, 48, 263, 264, 265, 266, 267, 268, 269, 270, 271, 52, 272, 273, 274, 275, 276, 277, 278, 279, 280, 132, 133, 281, 282, 283, 284, 285, 178, 156, 155, 164, 167, 163, 179, 202, 203, 190, 157, 224, 158, 240, 239, 250]
def ix_seS : List Nat := [37, 73, 102, 111, 112, 16, 76, 130, 34, 31, 137, 85, 26, 138, 77, 142, 17, 75, 143, 18, 144, 145, 104, 55, 19, 61, 56, 60, 65, 66, 900, 901, 59, 64, 25, 63, 58, 57, 27, 9, 13, 106, 40, 62, 67, 68, 38, 107, 14, 93, 15, 97, 86, 87, 84, 88, 89, 90, 91, 72, 71, 70, 46, 108, 12, 11, 10, 113, 78, 79, 80, 82, 81, 83, 114, 115, 116, 117, 74, 118, 119, 120, 50, 121, 49, 123, 3, 2, 124, 6, 125, 36, 126, 127, 128, 32, 129, 131, 134, 135, 136, 139, 0, 140, 153, 159, 177, 189, 194, 195, 207, 208, 211, 216, 217, 218, 219, 220, 221, 225, 226, 229, 231, 233, 234, 235, 236, 237, 238, 241, 243, 244, 245, 246, 247, 251, 252, 255, 256, 257, 258]
def ix_prS : List Nat := [39, 103, 35, 109, 146, 20, 22, 23, 24, 28, 110, 105, 41, 42, 43, 44, 94, 95, 92, 96, 99, 98, 100, 101, 47, 149, 151, 150, 147, 122, 148, 51, 53, 54, 4, 5, 7, 8, 33, 141, 1, 152, 180, 181, 154, 173, 161, 160, 176, 175, 168, 166, 162, 169, 165, 171, 174, 184, 185, 188, 183, 182, 186, 170, 187, 172, 193, 192, 206, 205, 197, 204, 201, 200, 196, 199, 198, 191, 210, 209, 212, 215, 213, 214, 223, 222, 228, 227, 230, 232, 242, 249, 248, 254, 253]
def ix_coS : List Nat := [37, 39, 73, 102, 103, 111, 112, 16, 76, 130, 34, 259, 35, 31, 137, 85, 26, 138, 77, 142, 17, 75, 143, 18, 144, 145, 104, 109, 146, 55, 19, 61, 56, 60, 20, 65, 66, 900, 901, 22, 21, 59, 64, 69, 23, 24, 25, 63, 28, 29, 30, 110, 58, 57, 27, 105, 9, 13, 106, 40, 41, 42, 43, 62, 67, 68, 44, 45, 38, 107, 14, 93, 94, 95, 92, 96, 15, 97, 99, 98, 100, 101, 86, 87, 84, 88, 89, 90, 91, 72, 71, 70, 46, 47, 48, 108, 12, 11, 10, 113, 78, 79, 80, 82, 81, 83, 114, 149, 151, 115, 150, 116, 147, 117, 74, 118, 119, 120, 122, 148, 50, 51, 52, 53, 54, 121, 49, 123, 3, 4, 5, 2, 124, 6, 7, 8, 125, 36, 126, 127, 128, 32, 129, 33, 131, 132, 133, 134, 135, 136, 139, 141, 0, 1, 140, 152, 180, 178, 181, 156, 153, 159, 177, 155, 154, 173, 161, 160, 176, 175, 168, 166, 164, 167, 162, 169, 165, 163, 171, 174, 189, 184, 185, 188, 183, 182, 186, 170, 187, 172, 194, 195, 207, 193, 192, 179, 206, 205, 197, 202, 203, 204, 201, 200, 196, 199, 198, 191, 190, 157, 208, 211, 210, 209, 216, 212, 215, 217, 213, 218, 219, 220, 221, 225, 214, 224, 223, 222, 158, 226, 229, 228, 227, 231, 230, 233, 232, 234, 235, 236, 237, 238, 241, 240, 239, 243, 242, 244, 245, 246, 247, 251, 250, 249, 248, 252, 255, 254, 253, 256, 257, 258]
def ix_inS : List String := ["CryGorgeLaw", "CryGorge", "CryGorge$Reader", "CryGorge$Land", "CryGorge$Law", "CryGorge$Heard", "CryGorge$Work", "CryGorge$Seasons", "CryGorge$State", "CryGorge$History", "CryGorge$Planner", "CryGorge$Guesses", "CryGorge$Century", "CryGorgeModel", "java/lang/Throwable", "java/lang/Exception", "java/lang/RuntimeException", "java/lang/IllegalArgumentException", "java/lang/Math", "java/lang/String", "java/lang/StringLatin1", "jdk/internal/util/Preconditions", "java/lang/StringUTF16", "java/lang/System", "java/lang/Integer", "java/util/NoSuchElementException"]
def ix_mkw (e : Nat × Nat × Nat × Nat × Nat) : Cond := if e.2.2.2.1 = 2 then .methodLinkNest (ix_cn e.1) e.2.1 (ix_y0 e.2.2.1) "CryGorge" else .methodLink (ix_cn e.1) e.2.1 (ix_y0 e.2.2.1)
def ix_selw (mi : Nat) : Cond := .selects (ix_y0 mi).cls (ix_y0 mi) (ix_y0 mi)
def ix_mmS : List (Nat × Nat × Nat) := [(7, 15, 5), (7, 21, 4), (4, 115, 4), (4, 120, 5), (9, 64, 5), (5, 133, 5), (5, 138, 4), (8, 56, 5), (1, 103, 4), (4, 138, 6), (11, 354, 5), (11, 382, 4)]
def ix_mn (k : Nat) : MethodName := if k = 4 then Lib.Math.max.name else if k = 5 then Lib.Math.min.name else Lib.Math.abs.name
theorem ix_s10 : ix_sub (ix_mmS.map (fun e => .methodLink (ix_cn e.1) e.2.1 (ix_mn e.2.2))) tables_1 = true := by decide +kernel
theorem ix_s1 : ix_sub (ix_flS.map ix_fw) tables_1 = true := by decide +kernel
theorem ix_s2 : ix_sub (ix_mkS.map ix_mkw) tables_1 = true := by decide +kernel
theorem ix_s3 : ix_sub (ix_viS.map (fun m => .instanceMethod (ix_y0 m))) tables_1 = true := by decide +kernel
theorem ix_s4 : ix_sub (ix_stS.map (fun m => .static (ix_y0 m))) tables_1 = true := by decide +kernel
theorem ix_s5 : ix_sub (ix_seS.map ix_selw) tables_1 = true := by decide +kernel
theorem ix_s6 : ix_sub (ix_prS.map ix_selw) (k2_sels lw_privs) = true := by decide +kernel
theorem ix_s8 : ix_sub (ix_inS.map (fun c => .initialized c)) tables_1 = true := by decide +kernel
theorem ix_s9 : ix_sub (ix_acS.map (fun e => .methodLink (ix_cn e.1) e.2 arraycopyName)) tables_1 = true := by decide +kernel
def ix_layS (ci : Nat) : List Nat := ([[0, 1, 2, 3, 4], [0, 1, 2, 3, 4, 5, 6, 7, 8, 9], [0, 1, 2], [0, 1, 2, 3, 4, 5], [0, 1, 2, 3, 4, 5, 6, 7, 8, 9], [0, 1, 2, 3, 4], [0, 1, 2, 3, 4, 5, 6, 7], [0, 1, 2, 3, 4, 5, 6], [0, 1, 2], [0, 1, 2, 3, 4, 5, 6], [0, 1, 2, 3, 4, 5, 6], [0, 1, 2, 3, 4, 5, 6, 7, 8, 9, 10, 11, 12, 13, 14, 15, 16, 17, 18, 19], [0, 1, 2, 3, 4, 5, 6, 7, 8, 9, 10, 11, 12, 13, 14, 15, 16, 17, 18, 19, 20, 21, 22, 23, 24, 25, 26, 27, 28, 29, 30, 31, 32, 33, 34, 35, 36, 37, 38, 39, 40, 41, 42, 43, 44, 45, 46, 47, 48, 49]] : List (List Nat)).getD ci []
theorem ix_la0 : ix_sub ((ix_layS 0).map (u_lay RX0 TX0)) tables_1 = true := by decide +kernel
theorem ix_la1 : ix_sub ((ix_layS 1).map (u_lay RX1 TX1)) tables_1 = true := by decide +kernel
theorem ix_la2 : ix_sub ((ix_layS 2).map (u_lay RX2 TX2)) tables_1 = true := by decide +kernel
theorem ix_la3 : ix_sub ((ix_layS 3).map (u_lay RX3 TX3)) tables_1 = true := by decide +kernel
theorem ix_la4 : ix_sub ((ix_layS 4).map (u_lay RX4 TX4)) tables_1 = true := by decide +kernel
theorem ix_la5 : ix_sub ((ix_layS 5).map (u_lay RX5 TX5)) tables_1 = true := by decide +kernel
theorem ix_la6 : ix_sub ((ix_layS 6).map (u_lay RX6 TX6)) tables_1 = true := by decide +kernel
theorem ix_la7 : ix_sub ((ix_layS 7).map (u_lay RX7 TX7)) tables_1 = true := by decide +kernel
theorem ix_la8 : ix_sub ((ix_layS 8).map (u_lay RX8 TX8)) tables_1 = true := by decide +kernel
theorem ix_la9 : ix_sub ((ix_layS 9).map (u_lay RX9 TX9)) tables_1 = true := by decide +kernel
theorem ix_la10 : ix_sub ((ix_layS 10).map (u_lay RX10 TX10)) tables_1 = true := by decide +kernel
theorem ix_la11 : ix_sub ((ix_layS 11).map (u_lay RX11 TX11)) tables_1 = true := by decide +kernel
theorem ix_la12 : ix_sub ((ix_layS 12).map (u_lay RX12 TX12)) tables_1 = true := by decide +kernel
theorem ix_ar_ok : ∀ e ∈ ix_mlk, ix_ar e = true := by decide +kernel
theorem ix_okr_ok : ∀ M ∈ ix_tab, ix_okr M = true := by decide +kernel
end
section
def ix_cw (M : ix_M) : Cond := .code (ix_my M) (ix_mb M) (ix_ml M) (ix_mr M)
theorem cw_0 : ix_cw mt_0 ∈ lw_tbl := ix_tbl (List.mem_append_right _ (List.mem_append_right _ (List.mem_append_right _ (List.mem_append_right _ (List.mem_append_right _ (List.mem_append_left _ (List.mem_of_getElem? (i := 150) rfl)))))))
theorem cw_1 : ix_cw mt_1 ∈ lw_tbl := ix_tbl (List.mem_append_right _ (List.mem_append_right _ (List.mem_append_right _ (List.mem_append_right _ (List.mem_append_right _ (List.mem_append_left _ (List.mem_of_getElem? (i := 154) rfl)))))))
theorem cw_2 : ix_cw mt_2 ∈ lw_tbl := ix_tbl (List.mem_append_right _ (List.mem_append_right _ (List.mem_append_right _ (List.mem_append_right _ (List.mem_append_right _ (List.mem_append_left _ (List.mem_of_getElem? (i := 26) rfl)))))))
theorem cw_3 : ix_cw mt_3 ∈ lw_tbl := ix_tbl (List.mem_append_right _ (List.mem_append_right _ (List.mem_append_right _ (List.mem_append_right _ (List.mem_append_right _ (List.mem_append_left _ (List.mem_of_getElem? (i := 12) rfl)))))))
theorem cw_4 : ix_cw mt_4 ∈ lw_tbl := ix_tbl (List.mem_append_right _ (List.mem_append_right _ (List.mem_append_right _ (List.mem_append_right _ (List.mem_append_right _ (List.mem_append_left _ (List.mem_of_getElem? (i := 16) rfl)))))))
theorem cw_5 : ix_cw mt_5 ∈ lw_tbl := ix_tbl (List.mem_append_right _ (List.mem_append_right _ (List.mem_append_right _ (List.mem_append_right _ (List.mem_append_right _ (List.mem_append_left _ (List.mem_of_getElem? (i := 21) rfl)))))))
theorem cw_6 : ix_cw mt_6 ∈ lw_tbl := ix_tbl (List.mem_append_right _ (List.mem_append_right _ (List.mem_append_right _ (List.mem_append_right _ (List.mem_append_right _ (List.mem_append_left _ (List.mem_of_getElem? (i := 37) rfl)))))))
theorem cw_7 : ix_cw mt_7 ∈ lw_tbl := ix_tbl (List.mem_append_right _ (List.mem_append_right _ (List.mem_append_right _ (List.mem_append_right _ (List.mem_append_right _ (List.mem_append_left _ (List.mem_of_getElem? (i := 41) rfl)))))))
theorem cw_8 : ix_cw mt_8 ∈ lw_tbl := ix_tbl (List.mem_append_right _ (List.mem_append_right _ (List.mem_append_right _ (List.mem_append_right _ (List.mem_append_right _ (List.mem_append_left _ (List.mem_of_getElem? (i := 45) rfl)))))))
theorem cw_9 : ix_cw mt_9 ∈ lw_tbl := ix_tbl (List.mem_append_right _ (List.mem_append_right _ (List.mem_append_right _ (List.mem_append_left _ (List.mem_of_getElem? (i := 84) rfl)))))
theorem cw_10 : ix_cw mt_10 ∈ lw_tbl := ix_tbl (List.mem_append_right _ (List.mem_append_right _ (List.mem_append_right _ (List.mem_append_right _ (List.mem_append_left _ (List.mem_of_getElem? (i := 76) rfl))))))
theorem cw_11 : ix_cw mt_11 ∈ lw_tbl := ix_tbl (List.mem_append_right _ (List.mem_append_right _ (List.mem_append_right _ (List.mem_append_right _ (List.mem_append_left _ (List.mem_of_getElem? (i := 69) rfl))))))
theorem cw_12 : ix_cw mt_12 ∈ lw_tbl := ix_tbl (List.mem_append_right _ (List.mem_append_right _ (List.mem_append_right _ (List.mem_append_right _ (List.mem_append_left _ (List.mem_of_getElem? (i := 63) rfl))))))
theorem cw_13 : ix_cw mt_13 ∈ lw_tbl := ix_tbl (List.mem_append_right _ (List.mem_append_right _ (List.mem_append_right _ (List.mem_append_left _ (List.mem_of_getElem? (i := 88) rfl)))))
theorem cw_14 : ix_cw mt_14 ∈ lw_tbl := ix_tbl (List.mem_append_right _ (List.mem_append_right _ (List.mem_append_right _ (List.mem_append_left _ (List.mem_of_getElem? (i := 166) rfl)))))
theorem cw_15 : ix_cw mt_15 ∈ lw_tbl := ix_tbl (List.mem_append_right _ (List.mem_append_right _ (List.mem_append_right _ (List.mem_append_left _ (List.mem_of_getElem? (i := 207) rfl)))))
theorem cw_16 : ix_cw mt_16 ∈ lw_tbl := ix_tbl (List.mem_append_right _ (List.mem_append_left _ (List.mem_of_getElem? (i := 236) rfl)))
theorem cw_17 : ix_cw mt_17 ∈ lw_tbl := ix_tbl (List.mem_append_right _ (List.mem_append_right _ (List.mem_append_left _ (List.mem_of_getElem? (i := 54) rfl))))
theorem cw_18 : ix_cw mt_18 ∈ lw_tbl := ix_tbl (List.mem_append_right _ (List.mem_append_right _ (List.mem_append_left _ (List.mem_of_getElem? (i := 67) rfl))))
theorem cw_19 : ix_cw mt_19 ∈ lw_tbl := ix_tbl (List.mem_append_right _ (List.mem_append_right _ (List.mem_append_left _ (List.mem_of_getElem? (i := 171) rfl))))
theorem cw_20 : ix_cw mt_20 ∈ lw_tbl := ix_tbl (List.mem_append_right _ (List.mem_append_right _ (List.mem_append_left _ (List.mem_of_getElem? (i := 187) rfl))))
theorem cw_21 : ix_cw mt_21 ∈ lw_tbl := ix_tbl (List.mem_append_right _ (List.mem_append_right _ (List.mem_append_right _ (List.mem_append_left _ (List.mem_of_getElem? (i := 11) rfl)))))
theorem cw_22 : ix_cw mt_22 ∈ lw_tbl := ix_tbl (List.mem_append_right _ (List.mem_append_right _ (List.mem_append_right _ (List.mem_append_left _ (List.mem_of_getElem? (i := 8) rfl)))))
theorem cw_23 : ix_cw mt_23 ∈ lw_tbl := ix_tbl (List.mem_append_right _ (List.mem_append_right _ (List.mem_append_right _ (List.mem_append_left _ (List.mem_of_getElem? (i := 30) rfl)))))
theorem cw_24 : ix_cw mt_24 ∈ lw_tbl := ix_tbl (List.mem_append_right _ (List.mem_append_right _ (List.mem_append_right _ (List.mem_append_left _ (List.mem_of_getElem? (i := 35) rfl)))))
theorem cw_25 : ix_cw mt_25 ∈ lw_tbl := ix_tbl (List.mem_append_right _ (List.mem_append_right _ (List.mem_append_right _ (List.mem_append_left _ (List.mem_of_getElem? (i := 39) rfl)))))
theorem cw_26 : ix_cw mt_26 ∈ lw_tbl := ix_tbl (List.mem_append_right _ (List.mem_append_right _ (List.mem_append_left _ (List.mem_of_getElem? (i := 37) rfl))))
theorem cw_27 : ix_cw mt_27 ∈ lw_tbl := ix_tbl (List.mem_append_right _ (List.mem_append_right _ (List.mem_append_right _ (List.mem_append_left _ (List.mem_of_getElem? (i := 74) rfl)))))
theorem cw_28 : ix_cw mt_28 ∈ lw_tbl := ix_tbl (List.mem_append_right _ (List.mem_append_right _ (List.mem_append_right _ (List.mem_append_left _ (List.mem_of_getElem? (i := 49) rfl)))))
theorem cw_29 : ix_cw mt_29 ∈ lw_tbl := ix_tbl (List.mem_append_right _ (List.mem_append_right _ (List.mem_append_right _ (List.mem_append_left _ (List.mem_of_getElem? (i := 52) rfl)))))
theorem cw_30 : ix_cw mt_30 ∈ lw_tbl := ix_tbl (List.mem_append_right _ (List.mem_append_right _ (List.mem_append_right _ (List.mem_append_left _ (List.mem_of_getElem? (i := 55) rfl)))))
theorem cw_31 : ix_cw mt_31 ∈ lw_tbl := ix_tbl (List.mem_append_right _ (List.mem_append_right _ (List.mem_append_left _ (List.mem_of_getElem? (i := 25) rfl))))
theorem cw_32 : ix_cw mt_32 ∈ lw_tbl := ix_tbl (List.mem_append_right _ (List.mem_append_right _ (List.mem_append_right _ (List.mem_append_right _ (List.mem_append_right _ (List.mem_append_left _ (List.mem_of_getElem? (i := 86) rfl)))))))
theorem cw_33 : ix_cw mt_33 ∈ lw_tbl := ix_tbl (List.mem_append_right _ (List.mem_append_right _ (List.mem_append_right _ (List.mem_append_right _ (List.mem_append_right _ (List.mem_append_left _ (List.mem_of_getElem? (i := 97) rfl)))))))
theorem cw_34 : ix_cw mt_34 ∈ lw_tbl := ix_tbl (List.mem_append_right _ (List.mem_append_right _ (List.mem_append_left _ (List.mem_of_getElem? (i := 11) rfl))))
theorem cw_35 : ix_cw mt_35 ∈ lw_tbl := ix_tbl (List.mem_append_right _ (List.mem_append_right _ (List.mem_append_left _ (List.mem_of_getElem? (i := 21) rfl))))
theorem cw_36 : ix_cw mt_36 ∈ lw_tbl := ix_tbl (List.mem_append_right _ (List.mem_append_right _ (List.mem_append_right _ (List.mem_append_right _ (List.mem_append_right _ (List.mem_append_left _ (List.mem_of_getElem? (i := 57) rfl)))))))
theorem cw_37 : ix_cw mt_37 ∈ lw_tbl := ix_tbl (List.mem_append_left _ (List.mem_of_getElem? (i := 138) rfl))
theorem cw_38 : ix_cw mt_38 ∈ lw_tbl := ix_tbl (List.mem_append_right _ (List.mem_append_right _ (List.mem_append_right _ (List.mem_append_left _ (List.mem_of_getElem? (i := 154) rfl)))))
theorem cw_39 : ix_cw mt_39 ∈ lw_tbl := ix_tbl (List.mem_append_left _ (List.mem_of_getElem? (i := 142) rfl))
theorem cw_40 : ix_cw mt_40 ∈ lw_tbl := ix_tbl (List.mem_append_right _ (List.mem_append_right _ (List.mem_append_right _ (List.mem_append_left _ (List.mem_of_getElem? (i := 100) rfl)))))
theorem cw_41 : ix_cw mt_41 ∈ lw_tbl := ix_tbl (List.mem_append_right _ (List.mem_append_right _ (List.mem_append_right _ (List.mem_append_left _ (List.mem_of_getElem? (i := 104) rfl)))))
theorem cw_42 : ix_cw mt_42 ∈ lw_tbl := ix_tbl (List.mem_append_right _ (List.mem_append_right _ (List.mem_append_right _ (List.mem_append_left _ (List.mem_of_getElem? (i := 108) rfl)))))
theorem cw_43 : ix_cw mt_43 ∈ lw_tbl := ix_tbl (List.mem_append_right _ (List.mem_append_right _ (List.mem_append_right _ (List.mem_append_left _ (List.mem_of_getElem? (i := 112) rfl)))))
theorem cw_44 : ix_cw mt_44 ∈ lw_tbl := ix_tbl (List.mem_append_right _ (List.mem_append_right _ (List.mem_append_right _ (List.mem_append_left _ (List.mem_of_getElem? (i := 136) rfl)))))
theorem cw_45 : ix_cw mt_45 ∈ lw_tbl := ix_tbl (List.mem_append_right _ (List.mem_append_right _ (List.mem_append_right _ (List.mem_append_left _ (List.mem_of_getElem? (i := 140) rfl)))))
theorem cw_46 : ix_cw mt_46 ∈ lw_tbl := ix_tbl (List.mem_append_right _ (List.mem_append_right _ (List.mem_append_right _ (List.mem_append_right _ (List.mem_append_left _ (List.mem_of_getElem? (i := 42) rfl))))))
theorem cw_47 : ix_cw mt_47 ∈ lw_tbl := ix_tbl (List.mem_append_right _ (List.mem_append_right _ (List.mem_append_right _ (List.mem_append_right _ (List.mem_append_left _ (List.mem_of_getElem? (i := 46) rfl))))))
theorem cw_48 : ix_cw mt_48 ∈ lw_tbl := ix_tbl (List.mem_append_right _ (List.mem_append_right _ (List.mem_append_right _ (List.mem_append_right _ (List.mem_append_left _ (List.mem_of_getElem? (i := 49) rfl))))))
theorem cw_49 : ix_cw mt_49 ∈ lw_tbl := ix_tbl (List.mem_append_right _ (List.mem_append_right _ (List.mem_append_right _ (List.mem_append_right _ (List.mem_append_right _ (List.mem_append_left _ (List.mem_of_getElem? (i := 1) rfl)))))))
theorem cw_50 : ix_cw mt_50 ∈ lw_tbl := ix_tbl (List.mem_append_right _ (List.mem_append_right _ (List.mem_append_right _ (List.mem_append_right _ (List.mem_append_left _ (List.mem_of_getElem? (i := 213) rfl))))))
theorem cw_51 : ix_cw mt_51 ∈ lw_tbl := ix_tbl (List.mem_append_right _ (List.mem_append_right _ (List.mem_append_right _ (List.mem_append_right _ (List.mem_append_left _ (List.mem_of_getElem? (i := 217) rfl))))))
theorem cw_52 : ix_cw mt_52 ∈ lw_tbl := ix_tbl (List.mem_append_right _ (List.mem_append_right _ (List.mem_append_right _ (List.mem_append_right _ (List.mem_append_left _ (List.mem_of_getElem? (i := 220) rfl))))))
theorem cw_53 : ix_cw mt_53 ∈ lw_tbl := ix_tbl (List.mem_append_right _ (List.mem_append_right _ (List.mem_append_right _ (List.mem_append_right _ (List.mem_append_left _ (List.mem_of_getElem? (i := 225) rfl))))))
theorem cw_54 : ix_cw mt_54 ∈ lw_tbl := ix_tbl (List.mem_append_right _ (List.mem_append_right _ (List.mem_append_right _ (List.mem_append_right _ (List.mem_append_left _ (List.mem_of_getElem? (i := 229) rfl))))))
theorem cw_55 : ix_cw mt_55 ∈ lw_tbl := ix_tbl (List.mem_append_right _ (List.mem_append_right _ (List.mem_append_left _ (List.mem_of_getElem? (i := 161) rfl))))
theorem cw_56 : ix_cw mt_56 ∈ lw_tbl := ix_tbl (List.mem_append_right _ (List.mem_append_right _ (List.mem_append_left _ (List.mem_of_getElem? (i := 179) rfl))))
theorem cw_57 : ix_cw mt_57 ∈ lw_tbl := ix_tbl (List.mem_append_right _ (List.mem_append_right _ (List.mem_append_right _ (List.mem_append_left _ (List.mem_of_getElem? (i := 70) rfl)))))
theorem cw_58 : ix_cw mt_58 ∈ lw_tbl := ix_tbl (List.mem_append_right _ (List.mem_append_right _ (List.mem_append_right _ (List.mem_append_left _ (List.mem_of_getElem? (i := 66) rfl)))))
theorem cw_59 : ix_cw mt_59 ∈ lw_tbl := ix_tbl (List.mem_append_right _ (List.mem_append_right _ (List.mem_append_right _ (List.mem_append_left _ (List.mem_of_getElem? (i := 15) rfl)))))
theorem cw_60 : ix_cw mt_60 ∈ lw_tbl := ix_tbl (List.mem_append_right _ (List.mem_append_right _ (List.mem_append_left _ (List.mem_of_getElem? (i := 183) rfl))))
theorem cw_61 : ix_cw mt_61 ∈ lw_tbl := ix_tbl (List.mem_append_right _ (List.mem_append_right _ (List.mem_append_left _ (List.mem_of_getElem? (i := 175) rfl))))
theorem cw_62 : ix_cw mt_62 ∈ lw_tbl := ix_tbl (List.mem_append_right _ (List.mem_append_right _ (List.mem_append_right _ (List.mem_append_left _ (List.mem_of_getElem? (i := 120) rfl)))))
theorem cw_63 : ix_cw mt_63 ∈ lw_tbl := ix_tbl (List.mem_append_right _ (List.mem_append_right _ (List.mem_append_right _ (List.mem_append_left _ (List.mem_of_getElem? (i := 45) rfl)))))
theorem cw_64 : ix_cw mt_64 ∈ lw_tbl := ix_tbl (List.mem_append_right _ (List.mem_append_right _ (List.mem_append_right _ (List.mem_append_left _ (List.mem_of_getElem? (i := 19) rfl)))))
theorem cw_65 : ix_cw mt_65 ∈ lw_tbl := ix_tbl (List.mem_append_right _ (List.mem_append_right _ (List.mem_append_left _ (List.mem_of_getElem? (i := 191) rfl))))
theorem cw_66 : ix_cw mt_66 ∈ lw_tbl := ix_tbl (List.mem_append_right _ (List.mem_append_right _ (List.mem_append_left _ (List.mem_of_getElem? (i := 196) rfl))))
theorem cw_67 : ix_cw mt_67 ∈ lw_tbl := ix_tbl (List.mem_append_right _ (List.mem_append_right _ (List.mem_append_right _ (List.mem_append_left _ (List.mem_of_getElem? (i := 124) rfl)))))
theorem cw_68 : ix_cw mt_68 ∈ lw_tbl := ix_tbl (List.mem_append_right _ (List.mem_append_right _ (List.mem_append_right _ (List.mem_append_left _ (List.mem_of_getElem? (i := 129) rfl)))))
theorem cw_69 : ix_cw mt_69 ∈ lw_tbl := ix_tbl (List.mem_append_right _ (List.mem_append_right _ (List.mem_append_right _ (List.mem_append_left _ (List.mem_of_getElem? (i := 22) rfl)))))
theorem cw_70 : ix_cw mt_70 ∈ lw_tbl := ix_tbl (List.mem_append_right _ (List.mem_append_right _ (List.mem_append_right _ (List.mem_append_right _ (List.mem_append_left _ (List.mem_of_getElem? (i := 37) rfl))))))
theorem cw_71 : ix_cw mt_71 ∈ lw_tbl := ix_tbl (List.mem_append_right _ (List.mem_append_right _ (List.mem_append_right _ (List.mem_append_right _ (List.mem_append_left _ (List.mem_of_getElem? (i := 30) rfl))))))
theorem cw_72 : ix_cw mt_72 ∈ lw_tbl := ix_tbl (List.mem_append_right _ (List.mem_append_right _ (List.mem_append_right _ (List.mem_append_right _ (List.mem_append_left _ (List.mem_of_getElem? (i := 26) rfl))))))
theorem cw_73 : ix_cw mt_73 ∈ lw_tbl := ix_tbl (List.mem_append_left _ (List.mem_of_getElem? (i := 234) rfl))
theorem cw_74 : ix_cw mt_74 ∈ lw_tbl := ix_tbl (List.mem_append_right _ (List.mem_append_right _ (List.mem_append_right _ (List.mem_append_right _ (List.mem_append_left _ (List.mem_of_getElem? (i := 179) rfl))))))
theorem cw_75 : ix_cw mt_75 ∈ lw_tbl := ix_tbl (List.mem_append_right _ (List.mem_append_right _ (List.mem_append_left _ (List.mem_of_getElem? (i := 58) rfl))))
theorem cw_76 : ix_cw mt_76 ∈ lw_tbl := ix_tbl (List.mem_append_right _ (List.mem_append_right _ (List.mem_append_left _ (List.mem_of_getElem? (i := 0) rfl))))
theorem cw_77 : ix_cw mt_77 ∈ lw_tbl := ix_tbl (List.mem_append_right _ (List.mem_append_right _ (List.mem_append_left _ (List.mem_of_getElem? (i := 45) rfl))))
theorem cw_78 : ix_cw mt_78 ∈ lw_tbl := ix_tbl (List.mem_append_right _ (List.mem_append_right _ (List.mem_append_right _ (List.mem_append_right _ (List.mem_append_left _ (List.mem_of_getElem? (i := 88) rfl))))))
theorem cw_79 : ix_cw mt_79 ∈ lw_tbl := ix_tbl (List.mem_append_right _ (List.mem_append_right _ (List.mem_append_right _ (List.mem_append_right _ (List.mem_append_left _ (List.mem_of_getElem? (i := 92) rfl))))))
theorem cw_80 : ix_cw mt_80 ∈ lw_tbl := ix_tbl (List.mem_append_right _ (List.mem_append_right _ (List.mem_append_right _ (List.mem_append_right _ (List.mem_append_left _ (List.mem_of_getElem? (i := 96) rfl))))))
theorem cw_81 : ix_cw mt_81 ∈ lw_tbl := ix_tbl (List.mem_append_right _ (List.mem_append_right _ (List.mem_append_right _ (List.mem_append_right _ (List.mem_append_left _ (List.mem_of_getElem? (i := 104) rfl))))))
theorem cw_82 : ix_cw mt_82 ∈ lw_tbl := ix_tbl (List.mem_append_right _ (List.mem_append_right _ (List.mem_append_right _ (List.mem_append_right _ (List.mem_append_left _ (List.mem_of_getElem? (i := 100) rfl))))))
theorem cw_83 : ix_cw mt_83 ∈ lw_tbl := ix_tbl (List.mem_append_right _ (List.mem_append_right _ (List.mem_append_right _ (List.mem_append_right _ (List.mem_append_left _ (List.mem_of_getElem? (i := 108) rfl))))))
theorem cw_84 : ix_cw mt_84 ∈ lw_tbl := ix_tbl (List.mem_append_right _ (List.mem_append_right _ (List.mem_append_right _ (List.mem_append_right _ (List.mem_append_left _ (List.mem_of_getElem? (i := 4) rfl))))))
theorem cw_85 : ix_cw mt_85 ∈ lw_tbl := ix_tbl (List.mem_append_right _ (List.mem_append_right _ (List.mem_append_left _ (List.mem_of_getElem? (i := 33) rfl))))
theorem cw_86 : ix_cw mt_86 ∈ lw_tbl := ix_tbl (List.mem_append_right _ (List.mem_append_right _ (List.mem_append_right _ (List.mem_append_left _ (List.mem_of_getElem? (i := 233) rfl)))))
theorem cw_87 : ix_cw mt_87 ∈ lw_tbl := ix_tbl (List.mem_append_right _ (List.mem_append_right _ (List.mem_append_right _ (List.mem_append_right _ (List.mem_append_left _ (List.mem_of_getElem? (i := 0) rfl))))))
theorem cw_88 : ix_cw mt_88 ∈ lw_tbl := ix_tbl (List.mem_append_right _ (List.mem_append_right _ (List.mem_append_right _ (List.mem_append_right _ (List.mem_append_left _ (List.mem_of_getElem? (i := 8) rfl))))))
theorem cw_89 : ix_cw mt_89 ∈ lw_tbl := ix_tbl (List.mem_append_right _ (List.mem_append_right _ (List.mem_append_right _ (List.mem_append_right _ (List.mem_append_left _ (List.mem_of_getElem? (i := 12) rfl))))))
theorem cw_90 : ix_cw mt_90 ∈ lw_tbl := ix_tbl (List.mem_append_right _ (List.mem_append_right _ (List.mem_append_right _ (List.mem_append_right _ (List.mem_append_left _ (List.mem_of_getElem? (i := 16) rfl))))))
theorem cw_91 : ix_cw mt_91 ∈ lw_tbl := ix_tbl (List.mem_append_right _ (List.mem_append_right _ (List.mem_append_right _ (List.mem_append_right _ (List.mem_append_left _ (List.mem_of_getElem? (i := 21) rfl))))))
theorem cw_92 : ix_cw mt_92 ∈ lw_tbl := ix_tbl (List.mem_append_right _ (List.mem_append_right _ (List.mem_append_right _ (List.mem_append_left _ (List.mem_of_getElem? (i := 188) rfl)))))
theorem cw_93 : ix_cw mt_93 ∈ lw_tbl := ix_tbl (List.mem_append_right _ (List.mem_append_right _ (List.mem_append_right _ (List.mem_append_left _ (List.mem_of_getElem? (i := 170) rfl)))))
theorem cw_94 : ix_cw mt_94 ∈ lw_tbl := ix_tbl (List.mem_append_right _ (List.mem_append_right _ (List.mem_append_right _ (List.mem_append_left _ (List.mem_of_getElem? (i := 174) rfl)))))
theorem cw_95 : ix_cw mt_95 ∈ lw_tbl := ix_tbl (List.mem_append_right _ (List.mem_append_right _ (List.mem_append_right _ (List.mem_append_left _ (List.mem_of_getElem? (i := 180) rfl)))))
theorem cw_96 : ix_cw mt_96 ∈ lw_tbl := ix_tbl (List.mem_append_right _ (List.mem_append_right _ (List.mem_append_right _ (List.mem_append_left _ (List.mem_of_getElem? (i := 199) rfl)))))
theorem cw_97 : ix_cw mt_97 ∈ lw_tbl := ix_tbl (List.mem_append_right _ (List.mem_append_right _ (List.mem_append_right _ (List.mem_append_left _ (List.mem_of_getElem? (i := 212) rfl)))))
theorem cw_98 : ix_cw mt_98 ∈ lw_tbl := ix_tbl (List.mem_append_right _ (List.mem_append_right _ (List.mem_append_right _ (List.mem_append_left _ (List.mem_of_getElem? (i := 221) rfl)))))
theorem cw_99 : ix_cw mt_99 ∈ lw_tbl := ix_tbl (List.mem_append_right _ (List.mem_append_right _ (List.mem_append_right _ (List.mem_append_left _ (List.mem_of_getElem? (i := 217) rfl)))))
theorem cw_100 : ix_cw mt_100 ∈ lw_tbl := ix_tbl (List.mem_append_right _ (List.mem_append_right _ (List.mem_append_right _ (List.mem_append_left _ (List.mem_of_getElem? (i := 225) rfl)))))
theorem cw_101 : ix_cw mt_101 ∈ lw_tbl := ix_tbl (List.mem_append_right _ (List.mem_append_right _ (List.mem_append_right _ (List.mem_append_left _ (List.mem_of_getElem? (i := 229) rfl)))))
theorem cw_102 : ix_cw mt_102 ∈ lw_tbl := ix_tbl (List.mem_append_right _ (List.mem_append_left _ (List.mem_of_getElem? (i := 220) rfl)))
theorem cw_103 : ix_cw mt_103 ∈ lw_tbl := ix_tbl (List.mem_append_right _ (List.mem_append_left _ (List.mem_of_getElem? (i := 224) rfl)))
theorem cw_104 : ix_cw mt_104 ∈ lw_tbl := ix_tbl (List.mem_append_right _ (List.mem_append_right _ (List.mem_append_left _ (List.mem_of_getElem? (i := 83) rfl))))
theorem cw_105 : ix_cw mt_105 ∈ lw_tbl := ix_tbl (List.mem_append_right _ (List.mem_append_right _ (List.mem_append_right _ (List.mem_append_left _ (List.mem_of_getElem? (i := 79) rfl)))))
theorem cw_106 : ix_cw mt_106 ∈ lw_tbl := ix_tbl (List.mem_append_right _ (List.mem_append_right _ (List.mem_append_right _ (List.mem_append_left _ (List.mem_of_getElem? (i := 96) rfl)))))
theorem cw_107 : ix_cw mt_107 ∈ lw_tbl := ix_tbl (List.mem_append_right _ (List.mem_append_right _ (List.mem_append_right _ (List.mem_append_left _ (List.mem_of_getElem? (i := 162) rfl)))))
theorem cw_108 : ix_cw mt_108 ∈ lw_tbl := ix_tbl (List.mem_append_right _ (List.mem_append_right _ (List.mem_append_right _ (List.mem_append_right _ (List.mem_append_left _ (List.mem_of_getElem? (i := 59) rfl))))))
theorem cw_109 : ix_cw mt_109 ∈ lw_tbl := ix_tbl (List.mem_append_right _ (List.mem_append_right _ (List.mem_append_left _ (List.mem_of_getElem? (i := 87) rfl))))
theorem cw_110 : ix_cw mt_110 ∈ lw_tbl := ix_tbl (List.mem_append_right _ (List.mem_append_right _ (List.mem_append_right _ (List.mem_append_left _ (List.mem_of_getElem? (i := 61) rfl)))))
theorem cw_111 : ix_cw mt_111 ∈ lw_tbl := ix_tbl (List.mem_append_right _ (List.mem_append_left _ (List.mem_of_getElem? (i := 228) rfl)))
theorem cw_112 : ix_cw mt_112 ∈ lw_tbl := ix_tbl (List.mem_append_right _ (List.mem_append_left _ (List.mem_of_getElem? (i := 232) rfl)))
theorem cw_113 : ix_cw mt_113 ∈ lw_tbl := ix_tbl (List.mem_append_right _ (List.mem_append_right _ (List.mem_append_right _ (List.mem_append_right _ (List.mem_append_left _ (List.mem_of_getElem? (i := 84) rfl))))))
theorem cw_114 : ix_cw mt_114 ∈ lw_tbl := ix_tbl (List.mem_append_right _ (List.mem_append_right _ (List.mem_append_right _ (List.mem_append_right _ (List.mem_append_left _ (List.mem_of_getElem? (i := 116) rfl))))))
theorem cw_115 : ix_cw mt_115 ∈ lw_tbl := ix_tbl (List.mem_append_right _ (List.mem_append_right _ (List.mem_append_right _ (List.mem_append_right _ (List.mem_append_left _ (List.mem_of_getElem? (i := 150) rfl))))))
theorem cw_116 : ix_cw mt_116 ∈ lw_tbl := ix_tbl (List.mem_append_right _ (List.mem_append_right _ (List.mem_append_right _ (List.mem_append_right _ (List.mem_append_left _ (List.mem_of_getElem? (i := 163) rfl))))))
theorem cw_117 : ix_cw mt_117 ∈ lw_tbl := ix_tbl (List.mem_append_right _ (List.mem_append_right _ (List.mem_append_right _ (List.mem_append_right _ (List.mem_append_left _ (List.mem_of_getElem? (i := 175) rfl))))))
theorem cw_118 : ix_cw mt_118 ∈ lw_tbl := ix_tbl (List.mem_append_right _ (List.mem_append_right _ (List.mem_append_right _ (List.mem_append_right _ (List.mem_append_left _ (List.mem_of_getElem? (i := 187) rfl))))))
theorem cw_119 : ix_cw mt_119 ∈ lw_tbl := ix_tbl (List.mem_append_right _ (List.mem_append_right _ (List.mem_append_right _ (List.mem_append_right _ (List.mem_append_left _ (List.mem_of_getElem? (i := 194) rfl))))))
theorem cw_120 : ix_cw mt_120 ∈ lw_tbl := ix_tbl (List.mem_append_right _ (List.mem_append_right _ (List.mem_append_right _ (List.mem_append_right _ (List.mem_append_left _ (List.mem_of_getElem? (i := 201) rfl))))))
theorem cw_121 : ix_cw mt_121 ∈ lw_tbl := ix_tbl (List.mem_append_right _ (List.mem_append_right _ (List.mem_append_right _ (List.mem_append_right _ (List.mem_append_left _ (List.mem_of_getElem? (i := 237) rfl))))))
theorem cw_122 : ix_cw mt_122 ∈ lw_tbl := ix_tbl (List.mem_append_right _ (List.mem_append_right _ (List.mem_append_right _ (List.mem_append_right _ (List.mem_append_left _ (List.mem_of_getElem? (i := 205) rfl))))))
theorem cw_123 : ix_cw mt_123 ∈ lw_tbl := ix_tbl (List.mem_append_right _ (List.mem_append_right _ (List.mem_append_right _ (List.mem_append_right _ (List.mem_append_right _ (List.mem_append_left _ (List.mem_of_getElem? (i := 8) rfl)))))))
theorem cw_124 : ix_cw mt_124 ∈ lw_tbl := ix_tbl (List.mem_append_right _ (List.mem_append_right _ (List.mem_append_right _ (List.mem_append_right _ (List.mem_append_right _ (List.mem_append_left _ (List.mem_of_getElem? (i := 33) rfl)))))))
theorem cw_125 : ix_cw mt_125 ∈ lw_tbl := ix_tbl (List.mem_append_right _ (List.mem_append_right _ (List.mem_append_right _ (List.mem_append_right _ (List.mem_append_right _ (List.mem_append_left _ (List.mem_of_getElem? (i := 53) rfl)))))))
theorem cw_126 : ix_cw mt_126 ∈ lw_tbl := ix_tbl (List.mem_append_right _ (List.mem_append_right _ (List.mem_append_right _ (List.mem_append_right _ (List.mem_append_right _ (List.mem_append_left _ (List.mem_of_getElem? (i := 67) rfl)))))))
theorem cw_127 : ix_cw mt_127 ∈ lw_tbl := ix_tbl (List.mem_append_right _ (List.mem_append_right _ (List.mem_append_right _ (List.mem_append_right _ (List.mem_append_right _ (List.mem_append_left _ (List.mem_of_getElem? (i := 74) rfl)))))))
theorem cw_128 : ix_cw mt_128 ∈ lw_tbl := ix_tbl (List.mem_append_right _ (List.mem_append_right _ (List.mem_append_right _ (List.mem_append_right _ (List.mem_append_right _ (List.mem_append_left _ (List.mem_of_getElem? (i := 82) rfl)))))))
theorem cw_129 : ix_cw mt_129 ∈ lw_tbl := ix_tbl (List.mem_append_right _ (List.mem_append_right _ (List.mem_append_right _ (List.mem_append_right _ (List.mem_append_right _ (List.mem_append_left _ (List.mem_of_getElem? (i := 93) rfl)))))))
theorem cw_130 : ix_cw mt_130 ∈ lw_tbl := ix_tbl (List.mem_append_right _ (List.mem_append_right _ (List.mem_append_left _ (List.mem_of_getElem? (i := 7) rfl))))
theorem cw_131 : ix_cw mt_131 ∈ lw_tbl := ix_tbl (List.mem_append_right _ (List.mem_append_right _ (List.mem_append_right _ (List.mem_append_right _ (List.mem_append_right _ (List.mem_append_left _ (List.mem_of_getElem? (i := 105) rfl)))))))
theorem cw_132 : ix_cw mt_132 ∈ lw_tbl := ix_tbl (List.mem_append_right _ (List.mem_append_right _ (List.mem_append_right _ (List.mem_append_right _ (List.mem_append_right _ (List.mem_append_left _ (List.mem_of_getElem? (i := 108) rfl)))))))
theorem cw_133 : ix_cw mt_133 ∈ lw_tbl := ix_tbl (List.mem_append_right _ (List.mem_append_right _ (List.mem_append_right _ (List.mem_append_right _ (List.mem_append_right _ (List.mem_append_left _ (List.mem_of_getElem? (i := 111) rfl)))))))
theorem cw_134 : ix_cw mt_134 ∈ lw_tbl := ix_tbl (List.mem_append_right _ (List.mem_append_right _ (List.mem_append_right _ (List.mem_append_right _ (List.mem_append_right _ (List.mem_append_left _ (List.mem_of_getElem? (i := 118) rfl)))))))
theorem cw_135 : ix_cw mt_135 ∈ lw_tbl := ix_tbl (List.mem_append_right _ (List.mem_append_right _ (List.mem_append_right _ (List.mem_append_right _ (List.mem_append_right _ (List.mem_append_left _ (List.mem_of_getElem? (i := 127) rfl)))))))
theorem cw_136 : ix_cw mt_136 ∈ lw_tbl := ix_tbl (List.mem_append_right _ (List.mem_append_right _ (List.mem_append_right _ (List.mem_append_right _ (List.mem_append_right _ (List.mem_append_left _ (List.mem_of_getElem? (i := 134) rfl)))))))
theorem cw_137 : ix_cw mt_137 ∈ lw_tbl := ix_tbl (List.mem_append_right _ (List.mem_append_right _ (List.mem_append_left _ (List.mem_of_getElem? (i := 29) rfl))))
theorem cw_138 : ix_cw mt_138 ∈ lw_tbl := ix_tbl (List.mem_append_right _ (List.mem_append_right _ (List.mem_append_left _ (List.mem_of_getElem? (i := 41) rfl))))
theorem cw_139 : ix_cw mt_139 ∈ lw_tbl := ix_tbl (List.mem_append_right _ (List.mem_append_right _ (List.mem_append_right _ (List.mem_append_right _ (List.mem_append_right _ (List.mem_append_left _ (List.mem_of_getElem? (i := 142) rfl)))))))
theorem cw_140 : ix_cw mt_140 ∈ lw_tbl := ix_tbl (List.mem_append_right _ (List.mem_append_right _ (List.mem_append_right _ (List.mem_append_right _ (List.mem_append_right _ (List.mem_append_left _ (List.mem_of_getElem? (i := 165) rfl)))))))
theorem cw_141 : ix_cw mt_141 ∈ lw_tbl := ix_tbl (List.mem_append_right _ (List.mem_append_right _ (List.mem_append_right _ (List.mem_append_right _ (List.mem_append_right _ (List.mem_append_left _ (List.mem_of_getElem? (i := 146) rfl)))))))
theorem cw_142 : ix_cw mt_142 ∈ lw_tbl := ix_tbl (List.mem_append_right _ (List.mem_append_right _ (List.mem_append_left _ (List.mem_of_getElem? (i := 50) rfl))))
theorem cw_143 : ix_cw mt_143 ∈ lw_tbl := ix_tbl (List.mem_append_right _ (List.mem_append_right _ (List.mem_append_left _ (List.mem_of_getElem? (i := 63) rfl))))
theorem cw_144 : ix_cw mt_144 ∈ lw_tbl := ix_tbl (List.mem_append_right _ (List.mem_append_right _ (List.mem_append_left _ (List.mem_of_getElem? (i := 71) rfl))))
theorem cw_145 : ix_cw mt_145 ∈ lw_tbl := ix_tbl (List.mem_append_right _ (List.mem_append_right _ (List.mem_append_left _ (List.mem_of_getElem? (i := 75) rfl))))
theorem cw_146 : ix_cw mt_146 ∈ lw_tbl := ix_tbl (List.mem_append_right _ (List.mem_append_right _ (List.mem_append_left _ (List.mem_of_getElem? (i := 91) rfl))))
theorem cw_147 : ix_cw mt_147 ∈ lw_tbl := ix_tbl (List.mem_append_right _ (List.mem_append_right _ (List.mem_append_right _ (List.mem_append_right _ (List.mem_append_left _ (List.mem_of_getElem? (i := 167) rfl))))))
theorem cw_148 : ix_cw mt_148 ∈ lw_tbl := ix_tbl (List.mem_append_right _ (List.mem_append_right _ (List.mem_append_right _ (List.mem_append_right _ (List.mem_append_left _ (List.mem_of_getElem? (i := 209) rfl))))))
theorem cw_149 : ix_cw mt_149 ∈ lw_tbl := ix_tbl (List.mem_append_right _ (List.mem_append_right _ (List.mem_append_right _ (List.mem_append_right _ (List.mem_append_left _ (List.mem_of_getElem? (i := 120) rfl))))))
theorem cw_150 : ix_cw mt_150 ∈ lw_tbl := ix_tbl (List.mem_append_right _ (List.mem_append_right _ (List.mem_append_right _ (List.mem_append_right _ (List.mem_append_left _ (List.mem_of_getElem? (i := 154) rfl))))))
theorem cw_151 : ix_cw mt_151 ∈ lw_tbl := ix_tbl (List.mem_append_right _ (List.mem_append_right _ (List.mem_append_right _ (List.mem_append_right _ (List.mem_append_left _ (List.mem_of_getElem? (i := 125) rfl))))))
theorem cw_152 : ix_cw mt_152 ∈ lw_tbl := ix_tbl (List.mem_append_right _ (List.mem_append_right _ (List.mem_append_right _ (List.mem_append_right _ (List.mem_append_right _ (List.mem_append_left _ (List.mem_of_getElem? (i := 177) rfl)))))))
theorem cw_153 : ix_cw mt_153 ∈ lw_tbl := ix_tbl (List.mem_append_right _ (List.mem_append_right _ (List.mem_append_right _ (List.mem_append_right _ (List.mem_append_right _ (List.mem_append_right _ (List.mem_append_left _ (List.mem_of_getElem? (i := 107) rfl))))))))
theorem cw_154 : ix_cw mt_154 ∈ lw_tbl := ix_tbl (List.mem_append_right _ (List.mem_append_right _ (List.mem_append_right _ (List.mem_append_right _ (List.mem_append_right _ (List.mem_append_right _ (List.mem_append_left _ (List.mem_of_getElem? (i := 122) rfl))))))))
theorem cw_155 : ix_cw mt_155 ∈ lw_tbl := ix_tbl (List.mem_append_right _ (List.mem_append_right _ (List.mem_append_right _ (List.mem_append_right _ (List.mem_append_right _ (List.mem_append_right _ (List.mem_append_left _ (List.mem_of_getElem? (i := 118) rfl))))))))
theorem cw_156 : ix_cw mt_156 ∈ lw_tbl := ix_tbl (List.mem_append_right _ (List.mem_append_right _ (List.mem_append_right _ (List.mem_append_right _ (List.mem_append_right _ (List.mem_append_left _ (List.mem_of_getElem? (i := 192) rfl)))))))
theorem cw_157 : ix_cw mt_157 ∈ lw_tbl := ix_tbl (List.mem_append_right _ (List.mem_append_right _ (List.mem_append_right _ (List.mem_append_right _ (List.mem_append_right _ (List.mem_append_right _ (List.mem_append_right _ (List.mem_append_left _ (List.mem_of_getElem? (i := 54) rfl)))))))))
theorem cw_158 : ix_cw mt_158 ∈ lw_tbl := ix_tbl (List.mem_append_right _ (List.mem_append_right _ (List.mem_append_right _ (List.mem_append_right _ (List.mem_append_right _ (List.mem_append_right _ (List.mem_append_right _ (List.mem_append_left _ (List.mem_of_getElem? (i := 128) rfl)))))))))
theorem cw_159 : ix_cw mt_159 ∈ lw_tbl := ix_tbl (List.mem_append_right _ (List.mem_append_right _ (List.mem_append_right _ (List.mem_append_right _ (List.mem_append_right _ (List.mem_append_right _ (List.mem_append_left _ (List.mem_of_getElem? (i := 111) rfl))))))))
theorem cw_160 : ix_cw mt_160 ∈ lw_tbl := ix_tbl (List.mem_append_right _ (List.mem_append_right _ (List.mem_append_right _ (List.mem_append_right _ (List.mem_append_right _ (List.mem_append_right _ (List.mem_append_left _ (List.mem_of_getElem? (i := 134) rfl))))))))
theorem cw_161 : ix_cw mt_161 ∈ lw_tbl := ix_tbl (List.mem_append_right _ (List.mem_append_right _ (List.mem_append_right _ (List.mem_append_right _ (List.mem_append_right _ (List.mem_append_right _ (List.mem_append_left _ (List.mem_of_getElem? (i := 130) rfl))))))))
theorem cw_162 : ix_cw mt_162 ∈ lw_tbl := ix_tbl (List.mem_append_right _ (List.mem_append_right _ (List.mem_append_right _ (List.mem_append_right _ (List.mem_append_right _ (List.mem_append_right _ (List.mem_append_left _ (List.mem_of_getElem? (i := 160) rfl))))))))
theorem cw_163 : ix_cw mt_163 ∈ lw_tbl := ix_tbl (List.mem_append_right _ (List.mem_append_right _ (List.mem_append_right _ (List.mem_append_right _ (List.mem_append_right _ (List.mem_append_right _ (List.mem_append_left _ (List.mem_of_getElem? (i := 171) rfl))))))))
theorem cw_164 : ix_cw mt_164 ∈ lw_tbl := ix_tbl (List.mem_append_right _ (List.mem_append_right _ (List.mem_append_right _ (List.mem_append_right _ (List.mem_append_right _ (List.mem_append_right _ (List.mem_append_left _ (List.mem_of_getElem? (i := 153) rfl))))))))
theorem cw_165 : ix_cw mt_165 ∈ lw_tbl := ix_tbl (List.mem_append_right _ (List.mem_append_right _ (List.mem_append_right _ (List.mem_append_right _ (List.mem_append_right _ (List.mem_append_right _ (List.mem_append_left _ (List.mem_of_getElem? (i := 168) rfl))))))))
theorem cw_166 : ix_cw mt_166 ∈ lw_tbl := ix_tbl (List.mem_append_right _ (List.mem_append_right _ (List.mem_append_right _ (List.mem_append_right _ (List.mem_append_right _ (List.mem_append_right _ (List.mem_append_left _ (List.mem_of_getElem? (i := 150) rfl))))))))
theorem cw_167 : ix_cw mt_167 ∈ lw_tbl := ix_tbl (List.mem_append_right _ (List.mem_append_right _ (List.mem_append_right _ (List.mem_append_right _ (List.mem_append_right _ (List.mem_append_right _ (List.mem_append_left _ (List.mem_of_getElem? (i := 156) rfl))))))))
theorem cw_168 : ix_cw mt_168 ∈ lw_tbl := ix_tbl (List.mem_append_right _ (List.mem_append_right _ (List.mem_append_right _ (List.mem_append_right _ (List.mem_append_right _ (List.mem_append_right _ (List.mem_append_left _ (List.mem_of_getElem? (i := 146) rfl))))))))
theorem cw_169 : ix_cw mt_169 ∈ lw_tbl := ix_tbl (List.mem_append_right _ (List.mem_append_right _ (List.mem_append_right _ (List.mem_append_right _ (List.mem_append_right _ (List.mem_append_right _ (List.mem_append_left _ (List.mem_of_getElem? (i := 164) rfl))))))))
theorem cw_170 : ix_cw mt_170 ∈ lw_tbl := ix_tbl (List.mem_append_right _ (List.mem_append_right _ (List.mem_append_right _ (List.mem_append_right _ (List.mem_append_right _ (List.mem_append_right _ (List.mem_append_left _ (List.mem_of_getElem? (i := 211) rfl))))))))
theorem cw_171 : ix_cw mt_171 ∈ lw_tbl := ix_tbl (List.mem_append_right _ (List.mem_append_right _ (List.mem_append_right _ (List.mem_append_right _ (List.mem_append_right _ (List.mem_append_right _ (List.mem_append_left _ (List.mem_of_getElem? (i := 175) rfl))))))))
theorem cw_172 : ix_cw mt_172 ∈ lw_tbl := ix_tbl (List.mem_append_right _ (List.mem_append_right _ (List.mem_append_right _ (List.mem_append_right _ (List.mem_append_right _ (List.mem_append_right _ (List.mem_append_left _ (List.mem_of_getElem? (i := 219) rfl))))))))
theorem cw_173 : ix_cw mt_173 ∈ lw_tbl := ix_tbl (List.mem_append_right _ (List.mem_append_right _ (List.mem_append_right _ (List.mem_append_right _ (List.mem_append_right _ (List.mem_append_right _ (List.mem_append_left _ (List.mem_of_getElem? (i := 126) rfl))))))))
theorem cw_174 : ix_cw mt_174 ∈ lw_tbl := ix_tbl (List.mem_append_right _ (List.mem_append_right _ (List.mem_append_right _ (List.mem_append_right _ (List.mem_append_right _ (List.mem_append_right _ (List.mem_append_left _ (List.mem_of_getElem? (i := 179) rfl))))))))
theorem cw_175 : ix_cw mt_175 ∈ lw_tbl := ix_tbl (List.mem_append_right _ (List.mem_append_right _ (List.mem_append_right _ (List.mem_append_right _ (List.mem_append_right _ (List.mem_append_right _ (List.mem_append_left _ (List.mem_of_getElem? (i := 142) rfl))))))))
theorem cw_176 : ix_cw mt_176 ∈ lw_tbl := ix_tbl (List.mem_append_right _ (List.mem_append_right _ (List.mem_append_right _ (List.mem_append_right _ (List.mem_append_right _ (List.mem_append_right _ (List.mem_append_left _ (List.mem_of_getElem? (i := 138) rfl))))))))
theorem cw_177 : ix_cw mt_177 ∈ lw_tbl := ix_tbl (List.mem_append_right _ (List.mem_append_right _ (List.mem_append_right _ (List.mem_append_right _ (List.mem_append_right _ (List.mem_append_right _ (List.mem_append_left _ (List.mem_of_getElem? (i := 115) rfl))))))))
theorem cw_178 : ix_cw mt_178 ∈ lw_tbl := ix_tbl (List.mem_append_right _ (List.mem_append_right _ (List.mem_append_right _ (List.mem_append_right _ (List.mem_append_right _ (List.mem_append_left _ (List.mem_of_getElem? (i := 184) rfl)))))))
theorem cw_179 : ix_cw mt_179 ∈ lw_tbl := ix_tbl (List.mem_append_right _ (List.mem_append_right _ (List.mem_append_right _ (List.mem_append_right _ (List.mem_append_right _ (List.mem_append_right _ (List.mem_append_right _ (List.mem_append_left _ (List.mem_of_getElem? (i := 2) rfl)))))))))
theorem cw_180 : ix_cw mt_180 ∈ lw_tbl := ix_tbl (List.mem_append_right _ (List.mem_append_right _ (List.mem_append_right _ (List.mem_append_right _ (List.mem_append_right _ (List.mem_append_left _ (List.mem_of_getElem? (i := 181) rfl)))))))
theorem cw_181 : ix_cw mt_181 ∈ lw_tbl := ix_tbl (List.mem_append_right _ (List.mem_append_right _ (List.mem_append_right _ (List.mem_append_right _ (List.mem_append_right _ (List.mem_append_left _ (List.mem_of_getElem? (i := 188) rfl)))))))
theorem cw_182 : ix_cw mt_182 ∈ lw_tbl := ix_tbl (List.mem_append_right _ (List.mem_append_right _ (List.mem_append_right _ (List.mem_append_right _ (List.mem_append_right _ (List.mem_append_right _ (List.mem_append_left _ (List.mem_of_getElem? (i := 203) rfl))))))))
theorem cw_183 : ix_cw mt_183 ∈ lw_tbl := ix_tbl (List.mem_append_right _ (List.mem_append_right _ (List.mem_append_right _ (List.mem_append_right _ (List.mem_append_right _ (List.mem_append_right _ (List.mem_append_left _ (List.mem_of_getElem? (i := 199) rfl))))))))
theorem cw_184 : ix_cw mt_184 ∈ lw_tbl := ix_tbl (List.mem_append_right _ (List.mem_append_right _ (List.mem_append_right _ (List.mem_append_right _ (List.mem_append_right _ (List.mem_append_right _ (List.mem_append_left _ (List.mem_of_getElem? (i := 187) rfl))))))))
theorem cw_185 : ix_cw mt_185 ∈ lw_tbl := ix_tbl (List.mem_append_right _ (List.mem_append_right _ (List.mem_append_right _ (List.mem_append_right _ (List.mem_append_right _ (List.mem_append_right _ (List.mem_append_left _ (List.mem_of_getElem? (i := 191) rfl))))))))
theorem cw_186 : ix_cw mt_186 ∈ lw_tbl := ix_tbl (List.mem_append_right _ (List.mem_append_right _ (List.mem_append_right _ (List.mem_append_right _ (List.mem_append_right _ (List.mem_append_right _ (List.mem_append_left _ (List.mem_of_getElem? (i := 207) rfl))))))))
theorem cw_187 : ix_cw mt_187 ∈ lw_tbl := ix_tbl (List.mem_append_right _ (List.mem_append_right _ (List.mem_append_right _ (List.mem_append_right _ (List.mem_append_right _ (List.mem_append_right _ (List.mem_append_left _ (List.mem_of_getElem? (i := 215) rfl))))))))
theorem cw_188 : ix_cw mt_188 ∈ lw_tbl := ix_tbl (List.mem_append_right _ (List.mem_append_right _ (List.mem_append_right _ (List.mem_append_right _ (List.mem_append_right _ (List.mem_append_right _ (List.mem_append_left _ (List.mem_of_getElem? (i := 195) rfl))))))))
theorem cw_189 : ix_cw mt_189 ∈ lw_tbl := ix_tbl (List.mem_append_right _ (List.mem_append_right _ (List.mem_append_right _ (List.mem_append_right _ (List.mem_append_right _ (List.mem_append_right _ (List.mem_append_left _ (List.mem_of_getElem? (i := 183) rfl))))))))
theorem cw_190 : ix_cw mt_190 ∈ lw_tbl := ix_tbl (List.mem_append_right _ (List.mem_append_right _ (List.mem_append_right _ (List.mem_append_right _ (List.mem_append_right _ (List.mem_append_right _ (List.mem_append_right _ (List.mem_append_left _ (List.mem_of_getElem? (i := 51) rfl)))))))))
theorem cw_191 : ix_cw mt_191 ∈ lw_tbl := ix_tbl (List.mem_append_right _ (List.mem_append_right _ (List.mem_append_right _ (List.mem_append_right _ (List.mem_append_right _ (List.mem_append_right _ (List.mem_append_right _ (List.mem_append_left _ (List.mem_of_getElem? (i := 48) rfl)))))))))
theorem cw_192 : ix_cw mt_192 ∈ lw_tbl := ix_tbl (List.mem_append_right _ (List.mem_append_right _ (List.mem_append_right _ (List.mem_append_right _ (List.mem_append_right _ (List.mem_append_right _ (List.mem_append_left _ (List.mem_of_getElem? (i := 239) rfl))))))))
theorem cw_193 : ix_cw mt_193 ∈ lw_tbl := ix_tbl (List.mem_append_right _ (List.mem_append_right _ (List.mem_append_right _ (List.mem_append_right _ (List.mem_append_right _ (List.mem_append_right _ (List.mem_append_left _ (List.mem_of_getElem? (i := 235) rfl))))))))
theorem cw_194 : ix_cw mt_194 ∈ lw_tbl := ix_tbl (List.mem_append_right _ (List.mem_append_right _ (List.mem_append_right _ (List.mem_append_right _ (List.mem_append_right _ (List.mem_append_right _ (List.mem_append_left _ (List.mem_of_getElem? (i := 223) rfl))))))))
theorem cw_195 : ix_cw mt_195 ∈ lw_tbl := ix_tbl (List.mem_append_right _ (List.mem_append_right _ (List.mem_append_right _ (List.mem_append_right _ (List.mem_append_right _ (List.mem_append_right _ (List.mem_append_left _ (List.mem_of_getElem? (i := 227) rfl))))))))
theorem cw_196 : ix_cw mt_196 ∈ lw_tbl := ix_tbl (List.mem_append_right _ (List.mem_append_right _ (List.mem_append_right _ (List.mem_append_right _ (List.mem_append_right _ (List.mem_append_right _ (List.mem_append_right _ (List.mem_append_left _ (List.mem_of_getElem? (i := 36) rfl)))))))))
theorem cw_197 : ix_cw mt_197 ∈ lw_tbl := ix_tbl (List.mem_append_right _ (List.mem_append_right _ (List.mem_append_right _ (List.mem_append_right _ (List.mem_append_right _ (List.mem_append_right _ (List.mem_append_right _ (List.mem_append_left _ (List.mem_of_getElem? (i := 14) rfl)))))))))
theorem cw_198 : ix_cw mt_198 ∈ lw_tbl := ix_tbl (List.mem_append_right _ (List.mem_append_right _ (List.mem_append_right _ (List.mem_append_right _ (List.mem_append_right _ (List.mem_append_right _ (List.mem_append_right _ (List.mem_append_left _ (List.mem_of_getElem? (i := 44) rfl)))))))))
theorem cw_199 : ix_cw mt_199 ∈ lw_tbl := ix_tbl (List.mem_append_right _ (List.mem_append_right _ (List.mem_append_right _ (List.mem_append_right _ (List.mem_append_right _ (List.mem_append_right _ (List.mem_append_right _ (List.mem_append_left _ (List.mem_of_getElem? (i := 40) rfl)))))))))
theorem cw_200 : ix_cw mt_200 ∈ lw_tbl := ix_tbl (List.mem_append_right _ (List.mem_append_right _ (List.mem_append_right _ (List.mem_append_right _ (List.mem_append_right _ (List.mem_append_right _ (List.mem_append_right _ (List.mem_append_left _ (List.mem_of_getElem? (i := 32) rfl)))))))))
theorem cw_201 : ix_cw mt_201 ∈ lw_tbl := ix_tbl (List.mem_append_right _ (List.mem_append_right _ (List.mem_append_right _ (List.mem_append_right _ (List.mem_append_right _ (List.mem_append_right _ (List.mem_append_right _ (List.mem_append_left _ (List.mem_of_getElem? (i := 28) rfl)))))))))
theorem cw_202 : ix_cw mt_202 ∈ lw_tbl := ix_tbl (List.mem_append_right _ (List.mem_append_right _ (List.mem_append_right _ (List.mem_append_right _ (List.mem_append_right _ (List.mem_append_right _ (List.mem_append_right _ (List.mem_append_left _ (List.mem_of_getElem? (i := 17) rfl)))))))))
theorem cw_203 : ix_cw mt_203 ∈ lw_tbl := ix_tbl (List.mem_append_right _ (List.mem_append_right _ (List.mem_append_right _ (List.mem_append_right _ (List.mem_append_right _ (List.mem_append_right _ (List.mem_append_right _ (List.mem_append_left _ (List.mem_of_getElem? (i := 20) rfl)))))))))
theorem cw_204 : ix_cw mt_204 ∈ lw_tbl := ix_tbl (List.mem_append_right _ (List.mem_append_right _ (List.mem_append_right _ (List.mem_append_right _ (List.mem_append_right _ (List.mem_append_right _ (List.mem_append_right _ (List.mem_append_left _ (List.mem_of_getElem? (i := 24) rfl)))))))))
theorem cw_205 : ix_cw mt_205 ∈ lw_tbl := ix_tbl (List.mem_append_right _ (List.mem_append_right _ (List.mem_append_right _ (List.mem_append_right _ (List.mem_append_right _ (List.mem_append_right _ (List.mem_append_right _ (List.mem_append_left _ (List.mem_of_getElem? (i := 10) rfl)))))))))
theorem cw_206 : ix_cw mt_206 ∈ lw_tbl := ix_tbl (List.mem_append_right _ (List.mem_append_right _ (List.mem_append_right _ (List.mem_append_right _ (List.mem_append_right _ (List.mem_append_right _ (List.mem_append_right _ (List.mem_append_left _ (List.mem_of_getElem? (i := 6) rfl)))))))))
theorem cw_207 : ix_cw mt_207 ∈ lw_tbl := ix_tbl (List.mem_append_right _ (List.mem_append_right _ (List.mem_append_right _ (List.mem_append_right _ (List.mem_append_right _ (List.mem_append_right _ (List.mem_append_left _ (List.mem_of_getElem? (i := 231) rfl))))))))
theorem cw_208 : ix_cw mt_208 ∈ lw_tbl := ix_tbl (List.mem_append_right _ (List.mem_append_right _ (List.mem_append_right _ (List.mem_append_right _ (List.mem_append_right _ (List.mem_append_right _ (List.mem_append_right _ (List.mem_append_left _ (List.mem_of_getElem? (i := 58) rfl)))))))))
theorem cw_209 : ix_cw mt_209 ∈ lw_tbl := ix_tbl (List.mem_append_right _ (List.mem_append_right _ (List.mem_append_right _ (List.mem_append_right _ (List.mem_append_right _ (List.mem_append_right _ (List.mem_append_right _ (List.mem_append_left _ (List.mem_of_getElem? (i := 70) rfl)))))))))
theorem cw_210 : ix_cw mt_210 ∈ lw_tbl := ix_tbl (List.mem_append_right _ (List.mem_append_right _ (List.mem_append_right _ (List.mem_append_right _ (List.mem_append_right _ (List.mem_append_right _ (List.mem_append_right _ (List.mem_append_left _ (List.mem_of_getElem? (i := 66) rfl)))))))))
theorem cw_211 : ix_cw mt_211 ∈ lw_tbl := ix_tbl (List.mem_append_right _ (List.mem_append_right _ (List.mem_append_right _ (List.mem_append_right _ (List.mem_append_right _ (List.mem_append_right _ (List.mem_append_right _ (List.mem_append_left _ (List.mem_of_getElem? (i := 62) rfl)))))))))
theorem cw_212 : ix_cw mt_212 ∈ lw_tbl := ix_tbl (List.mem_append_right _ (List.mem_append_right _ (List.mem_append_right _ (List.mem_append_right _ (List.mem_append_right _ (List.mem_append_right _ (List.mem_append_right _ (List.mem_append_left _ (List.mem_of_getElem? (i := 78) rfl)))))))))
theorem cw_213 : ix_cw mt_213 ∈ lw_tbl := ix_tbl (List.mem_append_right _ (List.mem_append_right _ (List.mem_append_right _ (List.mem_append_right _ (List.mem_append_right _ (List.mem_append_right _ (List.mem_append_right _ (List.mem_append_left _ (List.mem_of_getElem? (i := 90) rfl)))))))))
theorem cw_214 : ix_cw mt_214 ∈ lw_tbl := ix_tbl (List.mem_append_right _ (List.mem_append_right _ (List.mem_append_right _ (List.mem_append_right _ (List.mem_append_right _ (List.mem_append_right _ (List.mem_append_right _ (List.mem_append_left _ (List.mem_of_getElem? (i := 114) rfl)))))))))
theorem cw_215 : ix_cw mt_215 ∈ lw_tbl := ix_tbl (List.mem_append_right _ (List.mem_append_right _ (List.mem_append_right _ (List.mem_append_right _ (List.mem_append_right _ (List.mem_append_right _ (List.mem_append_right _ (List.mem_append_left _ (List.mem_of_getElem? (i := 82) rfl)))))))))
theorem cw_216 : ix_cw mt_216 ∈ lw_tbl := ix_tbl (List.mem_append_right _ (List.mem_append_right _ (List.mem_append_right _ (List.mem_append_right _ (List.mem_append_right _ (List.mem_append_right _ (List.mem_append_right _ (List.mem_append_left _ (List.mem_of_getElem? (i := 74) rfl)))))))))
theorem cw_217 : ix_cw mt_217 ∈ lw_tbl := ix_tbl (List.mem_append_right _ (List.mem_append_right _ (List.mem_append_right _ (List.mem_append_right _ (List.mem_append_right _ (List.mem_append_right _ (List.mem_append_right _ (List.mem_append_left _ (List.mem_of_getElem? (i := 86) rfl)))))))))
theorem cw_218 : ix_cw mt_218 ∈ lw_tbl := ix_tbl (List.mem_append_right _ (List.mem_append_right _ (List.mem_append_right _ (List.mem_append_right _ (List.mem_append_right _ (List.mem_append_right _ (List.mem_append_right _ (List.mem_append_left _ (List.mem_of_getElem? (i := 94) rfl)))))))))
theorem cw_219 : ix_cw mt_219 ∈ lw_tbl := ix_tbl (List.mem_append_right _ (List.mem_append_right _ (List.mem_append_right _ (List.mem_append_right _ (List.mem_append_right _ (List.mem_append_right _ (List.mem_append_right _ (List.mem_append_left _ (List.mem_of_getElem? (i := 98) rfl)))))))))
theorem cw_220 : ix_cw mt_220 ∈ lw_tbl := ix_tbl (List.mem_append_right _ (List.mem_append_right _ (List.mem_append_right _ (List.mem_append_right _ (List.mem_append_right _ (List.mem_append_right _ (List.mem_append_right _ (List.mem_append_left _ (List.mem_of_getElem? (i := 102) rfl)))))))))
theorem cw_221 : ix_cw mt_221 ∈ lw_tbl := ix_tbl (List.mem_append_right _ (List.mem_append_right _ (List.mem_append_right _ (List.mem_append_right _ (List.mem_append_right _ (List.mem_append_right _ (List.mem_append_right _ (List.mem_append_left _ (List.mem_of_getElem? (i := 106) rfl)))))))))
theorem cw_222 : ix_cw mt_222 ∈ lw_tbl := ix_tbl (List.mem_append_right _ (List.mem_append_right _ (List.mem_append_right _ (List.mem_append_right _ (List.mem_append_right _ (List.mem_append_right _ (List.mem_append_right _ (List.mem_append_left _ (List.mem_of_getElem? (i := 125) rfl)))))))))
theorem cw_223 : ix_cw mt_223 ∈ lw_tbl := ix_tbl (List.mem_append_right _ (List.mem_append_right _ (List.mem_append_right _ (List.mem_append_right _ (List.mem_append_right _ (List.mem_append_right _ (List.mem_append_right _ (List.mem_append_left _ (List.mem_of_getElem? (i := 121) rfl)))))))))
theorem cw_224 : ix_cw mt_224 ∈ lw_tbl := ix_tbl (List.mem_append_right _ (List.mem_append_right _ (List.mem_append_right _ (List.mem_append_right _ (List.mem_append_right _ (List.mem_append_right _ (List.mem_append_right _ (List.mem_append_left _ (List.mem_of_getElem? (i := 117) rfl)))))))))
theorem cw_225 : ix_cw mt_225 ∈ lw_tbl := ix_tbl (List.mem_append_right _ (List.mem_append_right _ (List.mem_append_right _ (List.mem_append_right _ (List.mem_append_right _ (List.mem_append_right _ (List.mem_append_right _ (List.mem_append_left _ (List.mem_of_getElem? (i := 110) rfl)))))))))
theorem cw_226 : ix_cw mt_226 ∈ lw_tbl := ix_tbl (List.mem_append_right _ (List.mem_append_right _ (List.mem_append_right _ (List.mem_append_right _ (List.mem_append_right _ (List.mem_append_right _ (List.mem_append_right _ (List.mem_append_left _ (List.mem_of_getElem? (i := 132) rfl)))))))))
theorem cw_227 : ix_cw mt_227 ∈ lw_tbl := ix_tbl (List.mem_append_right _ (List.mem_append_right _ (List.mem_append_right _ (List.mem_append_right _ (List.mem_append_right _ (List.mem_append_right _ (List.mem_append_right _ (List.mem_append_left _ (List.mem_of_getElem? (i := 144) rfl)))))))))
theorem cw_228 : ix_cw mt_228 ∈ lw_tbl := ix_tbl (List.mem_append_right _ (List.mem_append_right _ (List.mem_append_right _ (List.mem_append_right _ (List.mem_append_right _ (List.mem_append_right _ (List.mem_append_right _ (List.mem_append_left _ (List.mem_of_getElem? (i := 140) rfl)))))))))
theorem cw_229 : ix_cw mt_229 ∈ lw_tbl := ix_tbl (List.mem_append_right _ (List.mem_append_right _ (List.mem_append_right _ (List.mem_append_right _ (List.mem_append_right _ (List.mem_append_right _ (List.mem_append_right _ (List.mem_append_left _ (List.mem_of_getElem? (i := 136) rfl)))))))))
theorem cw_230 : ix_cw mt_230 ∈ lw_tbl := ix_tbl (List.mem_append_right _ (List.mem_append_right _ (List.mem_append_right _ (List.mem_append_right _ (List.mem_append_right _ (List.mem_append_right _ (List.mem_append_right _ (List.mem_append_left _ (List.mem_of_getElem? (i := 152) rfl)))))))))
theorem cw_231 : ix_cw mt_231 ∈ lw_tbl := ix_tbl (List.mem_append_right _ (List.mem_append_right _ (List.mem_append_right _ (List.mem_append_right _ (List.mem_append_right _ (List.mem_append_right _ (List.mem_append_right _ (List.mem_append_left _ (List.mem_of_getElem? (i := 148) rfl)))))))))
theorem cw_232 : ix_cw mt_232 ∈ lw_tbl := ix_tbl (List.mem_append_right _ (List.mem_append_right _ (List.mem_append_right _ (List.mem_append_right _ (List.mem_append_right _ (List.mem_append_right _ (List.mem_append_right _ (List.mem_append_left _ (List.mem_of_getElem? (i := 160) rfl)))))))))
theorem cw_233 : ix_cw mt_233 ∈ lw_tbl := ix_tbl (List.mem_append_right _ (List.mem_append_right _ (List.mem_append_right _ (List.mem_append_right _ (List.mem_append_right _ (List.mem_append_right _ (List.mem_append_right _ (List.mem_append_left _ (List.mem_of_getElem? (i := 156) rfl)))))))))
theorem cw_234 : ix_cw mt_234 ∈ lw_tbl := ix_tbl (List.mem_append_right _ (List.mem_append_right _ (List.mem_append_right _ (List.mem_append_right _ (List.mem_append_right _ (List.mem_append_right _ (List.mem_append_right _ (List.mem_append_left _ (List.mem_of_getElem? (i := 164) rfl)))))))))
theorem cw_235 : ix_cw mt_235 ∈ lw_tbl := ix_tbl (List.mem_append_right _ (List.mem_append_right _ (List.mem_append_right _ (List.mem_append_right _ (List.mem_append_right _ (List.mem_append_right _ (List.mem_append_right _ (List.mem_append_left _ (List.mem_of_getElem? (i := 168) rfl)))))))))
theorem cw_236 : ix_cw mt_236 ∈ lw_tbl := ix_tbl (List.mem_append_right _ (List.mem_append_right _ (List.mem_append_right _ (List.mem_append_right _ (List.mem_append_right _ (List.mem_append_right _ (List.mem_append_right _ (List.mem_append_left _ (List.mem_of_getElem? (i := 172) rfl)))))))))
theorem cw_237 : ix_cw mt_237 ∈ lw_tbl := ix_tbl (List.mem_append_right _ (List.mem_append_right _ (List.mem_append_right _ (List.mem_append_right _ (List.mem_append_right _ (List.mem_append_right _ (List.mem_append_right _ (List.mem_append_left _ (List.mem_of_getElem? (i := 176) rfl)))))))))
theorem cw_238 : ix_cw mt_238 ∈ lw_tbl := ix_tbl (List.mem_append_right _ (List.mem_append_right _ (List.mem_append_right _ (List.mem_append_right _ (List.mem_append_right _ (List.mem_append_right _ (List.mem_append_right _ (List.mem_append_left _ (List.mem_of_getElem? (i := 180) rfl)))))))))
theorem cw_239 : ix_cw mt_239 ∈ lw_tbl := ix_tbl (List.mem_append_right _ (List.mem_append_right _ (List.mem_append_right _ (List.mem_append_right _ (List.mem_append_right _ (List.mem_append_right _ (List.mem_append_right _ (List.mem_append_left _ (List.mem_of_getElem? (i := 190) rfl)))))))))
theorem cw_240 : ix_cw mt_240 ∈ lw_tbl := ix_tbl (List.mem_append_right _ (List.mem_append_right _ (List.mem_append_right _ (List.mem_append_right _ (List.mem_append_right _ (List.mem_append_right _ (List.mem_append_right _ (List.mem_append_left _ (List.mem_of_getElem? (i := 187) rfl)))))))))
theorem cw_241 : ix_cw mt_241 ∈ lw_tbl := ix_tbl (List.mem_append_right _ (List.mem_append_right _ (List.mem_append_right _ (List.mem_append_right _ (List.mem_append_right _ (List.mem_append_right _ (List.mem_append_right _ (List.mem_append_left _ (List.mem_of_getElem? (i := 184) rfl)))))))))
theorem cw_242 : ix_cw mt_242 ∈ lw_tbl := ix_tbl (List.mem_append_right _ (List.mem_append_right _ (List.mem_append_right _ (List.mem_append_right _ (List.mem_append_right _ (List.mem_append_right _ (List.mem_append_right _ (List.mem_append_left _ (List.mem_of_getElem? (i := 198) rfl)))))))))
theorem cw_243 : ix_cw mt_243 ∈ lw_tbl := ix_tbl (List.mem_append_right _ (List.mem_append_right _ (List.mem_append_right _ (List.mem_append_right _ (List.mem_append_right _ (List.mem_append_right _ (List.mem_append_right _ (List.mem_append_left _ (List.mem_of_getElem? (i := 194) rfl)))))))))
theorem cw_244 : ix_cw mt_244 ∈ lw_tbl := ix_tbl (List.mem_append_right _ (List.mem_append_right _ (List.mem_append_right _ (List.mem_append_right _ (List.mem_append_right _ (List.mem_append_right _ (List.mem_append_right _ (List.mem_append_left _ (List.mem_of_getElem? (i := 202) rfl)))))))))
theorem cw_245 : ix_cw mt_245 ∈ lw_tbl := ix_tbl (List.mem_append_right _ (List.mem_append_right _ (List.mem_append_right _ (List.mem_append_right _ (List.mem_append_right _ (List.mem_append_right _ (List.mem_append_right _ (List.mem_append_left _ (List.mem_of_getElem? (i := 206) rfl)))))))))
theorem cw_246 : ix_cw mt_246 ∈ lw_tbl := ix_tbl (List.mem_append_right _ (List.mem_append_right _ (List.mem_append_right _ (List.mem_append_right _ (List.mem_append_right _ (List.mem_append_right _ (List.mem_append_right _ (List.mem_append_left _ (List.mem_of_getElem? (i := 210) rfl)))))))))
theorem cw_247 : ix_cw mt_247 ∈ lw_tbl := ix_tbl (List.mem_append_right _ (List.mem_append_right _ (List.mem_append_right _ (List.mem_append_right _ (List.mem_append_right _ (List.mem_append_right _ (List.mem_append_right _ (List.mem_append_left _ (List.mem_of_getElem? (i := 214) rfl)))))))))
theorem cw_248 : ix_cw mt_248 ∈ lw_tbl := ix_tbl (List.mem_append_right _ (List.mem_append_right _ (List.mem_append_right _ (List.mem_append_right _ (List.mem_append_right _ (List.mem_append_right _ (List.mem_append_right _ (List.mem_append_left _ (List.mem_of_getElem? (i := 229) rfl)))))))))
theorem cw_249 : ix_cw mt_249 ∈ lw_tbl := ix_tbl (List.mem_append_right _ (List.mem_append_right _ (List.mem_append_right _ (List.mem_append_right _ (List.mem_append_right _ (List.mem_append_right _ (List.mem_append_right _ (List.mem_append_left _ (List.mem_of_getElem? (i := 225) rfl)))))))))
theorem cw_250 : ix_cw mt_250 ∈ lw_tbl := ix_tbl (List.mem_append_right _ (List.mem_append_right _ (List.mem_append_right _ (List.mem_append_right _ (List.mem_append_right _ (List.mem_append_right _ (List.mem_append_right _ (List.mem_append_left _ (List.mem_of_getElem? (i := 221) rfl)))))))))
theorem cw_251 : ix_cw mt_251 ∈ lw_tbl := ix_tbl (List.mem_append_right _ (List.mem_append_right _ (List.mem_append_right _ (List.mem_append_right _ (List.mem_append_right _ (List.mem_append_right _ (List.mem_append_right _ (List.mem_append_left _ (List.mem_of_getElem? (i := 218) rfl)))))))))
theorem cw_252 : ix_cw mt_252 ∈ lw_tbl := ix_tbl (List.mem_append_right _ (List.mem_append_right _ (List.mem_append_right _ (List.mem_append_right _ (List.mem_append_right _ (List.mem_append_right _ (List.mem_append_right _ (List.mem_append_left _ (List.mem_of_getElem? (i := 234) rfl)))))))))
theorem cw_253 : ix_cw mt_253 ∈ lw_tbl := ix_tbl (List.mem_append_right _ (List.mem_append_right _ (List.mem_append_right _ (List.mem_append_right _ (List.mem_append_right _ (List.mem_append_right _ (List.mem_append_right _ (List.mem_append_right _ (List.mem_of_getElem? (i := 6) rfl)))))))))
theorem cw_254 : ix_cw mt_254 ∈ lw_tbl := ix_tbl (List.mem_append_right _ (List.mem_append_right _ (List.mem_append_right _ (List.mem_append_right _ (List.mem_append_right _ (List.mem_append_right _ (List.mem_append_right _ (List.mem_append_right _ (List.mem_of_getElem? (i := 2) rfl)))))))))
theorem cw_255 : ix_cw mt_255 ∈ lw_tbl := ix_tbl (List.mem_append_right _ (List.mem_append_right _ (List.mem_append_right _ (List.mem_append_right _ (List.mem_append_right _ (List.mem_append_right _ (List.mem_append_right _ (List.mem_append_left _ (List.mem_of_getElem? (i := 238) rfl)))))))))
theorem cw_256 : ix_cw mt_256 ∈ lw_tbl := ix_tbl (List.mem_append_right _ (List.mem_append_right _ (List.mem_append_right _ (List.mem_append_right _ (List.mem_append_right _ (List.mem_append_right _ (List.mem_append_right _ (List.mem_append_right _ (List.mem_of_getElem? (i := 10) rfl)))))))))
theorem cw_257 : ix_cw mt_257 ∈ lw_tbl := ix_tbl (List.mem_append_right _ (List.mem_append_right _ (List.mem_append_right _ (List.mem_append_right _ (List.mem_append_right _ (List.mem_append_right _ (List.mem_append_right _ (List.mem_append_right _ (List.mem_of_getElem? (i := 14) rfl)))))))))
theorem cw_258 : ix_cw mt_258 ∈ lw_tbl := ix_tbl (List.mem_append_right _ (List.mem_append_right _ (List.mem_append_right _ (List.mem_append_right _ (List.mem_append_right _ (List.mem_append_right _ (List.mem_append_right _ (List.mem_append_right _ (List.mem_of_getElem? (i := 18) rfl)))))))))
theorem cw_259 : ix_cw mt_259 ∈ lw_tbl := ix_tbl (List.mem_append_right _ (List.mem_append_right _ (List.mem_append_left _ (List.mem_of_getElem? (i := 14) rfl))))
def ix_tg0 : List ix_M := [mt_0, mt_1, mt_2, mt_3, mt_4, mt_5, mt_6, mt_7, mt_8, mt_9, mt_10, mt_11, mt_12, mt_13, mt_14, mt_15]
theorem cg_0 : ∀ M ∈ ix_tg0, ix_cw M ∈ lw_tbl := List.forall_mem_cons.mpr ⟨cw_0, List.forall_mem_cons.mpr ⟨cw_1, List.forall_mem_cons.mpr ⟨cw_2, List.forall_mem_cons.mpr ⟨cw_3, List.forall_mem_cons.mpr ⟨cw_4, List.forall_mem_cons.mpr ⟨cw_5, List.forall_mem_cons.mpr ⟨cw_6, List.forall_mem_cons.mpr ⟨cw_7, List.forall_mem_cons.mpr ⟨cw_8, List.forall_mem_cons.mpr ⟨cw_9, List.forall_mem_cons.mpr ⟨cw_10, List.forall_mem_cons.mpr ⟨cw_11, List.forall_mem_cons.mpr ⟨cw_12, List.forall_mem_cons.mpr ⟨cw_13, List.forall_mem_cons.mpr ⟨cw_14, List.forall_mem_cons.mpr ⟨cw_15, fun _ h => absurd h List.not_mem_nil⟩⟩⟩⟩⟩⟩⟩⟩⟩⟩⟩⟩⟩⟩⟩⟩
def ix_tg1 : List ix_M := [mt_16, mt_17, mt_18, mt_19, mt_20, mt_21, mt_22, mt_23, mt_24, mt_25, mt_26, mt_27, mt_28, mt_29, mt_30, mt_31]
theorem cg_1 : ∀ M ∈ ix_tg1, ix_cw M ∈ lw_tbl := List.forall_mem_cons.mpr ⟨cw_16, List.forall_mem_cons.mpr ⟨cw_17, List.forall_mem_cons.mpr ⟨cw_18, List.forall_mem_cons.mpr ⟨cw_19, List.forall_mem_cons.mpr ⟨cw_20, List.forall_mem_cons.mpr ⟨cw_21, List.forall_mem_cons.mpr ⟨cw_22, List.forall_mem_cons.mpr ⟨cw_23, List.forall_mem_cons.mpr ⟨cw_24, List.forall_mem_cons.mpr ⟨cw_25, List.forall_mem_cons.mpr ⟨cw_26, List.forall_mem_cons.mpr ⟨cw_27, List.forall_mem_cons.mpr ⟨cw_28, List.forall_mem_cons.mpr ⟨cw_29, List.forall_mem_cons.mpr ⟨cw_30, List.forall_mem_cons.mpr ⟨cw_31, fun _ h => absurd h List.not_mem_nil⟩⟩⟩⟩⟩⟩⟩⟩⟩⟩⟩⟩⟩⟩⟩⟩
def ix_tg2 : List ix_M := [mt_32, mt_33, mt_34, mt_35, mt_36, mt_37, mt_38, mt_39, mt_40, mt_41, mt_42, mt_43, mt_44, mt_45, mt_46, mt_47]
theorem cg_2 : ∀ M ∈ ix_tg2, ix_cw M ∈ lw_tbl := List.forall_mem_cons.mpr ⟨cw_32, List.forall_mem_cons.mpr ⟨cw_33, List.forall_mem_cons.mpr ⟨cw_34, List.forall_mem_cons.mpr ⟨cw_35, List.forall_mem_cons.mpr ⟨cw_36, List.forall_mem_cons.mpr ⟨cw_37, List.forall_mem_cons.mpr ⟨cw_38, List.forall_mem_cons.mpr ⟨cw_39, List.forall_mem_cons.mpr ⟨cw_40, List.forall_mem_cons.mpr ⟨cw_41, List.forall_mem_cons.mpr ⟨cw_42, List.forall_mem_cons.mpr ⟨cw_43, List.forall_mem_cons.mpr ⟨cw_44, List.forall_mem_cons.mpr ⟨cw_45, List.forall_mem_cons.mpr ⟨cw_46, List.forall_mem_cons.mpr ⟨cw_47, fun _ h => absurd h List.not_mem_nil⟩⟩⟩⟩⟩⟩⟩⟩⟩⟩⟩⟩⟩⟩⟩⟩
def ix_tg3 : List ix_M := [mt_48, mt_49, mt_50, mt_51, mt_52, mt_53, mt_54, mt_55, mt_56, mt_57, mt_58, mt_59, mt_60, mt_61, mt_62, mt_63]
theorem cg_3 : ∀ M ∈ ix_tg3, ix_cw M ∈ lw_tbl := List.forall_mem_cons.mpr ⟨cw_48, List.forall_mem_cons.mpr ⟨cw_49, List.forall_mem_cons.mpr ⟨cw_50, List.forall_mem_cons.mpr ⟨cw_51, List.forall_mem_cons.mpr ⟨cw_52, List.forall_mem_cons.mpr ⟨cw_53, List.forall_mem_cons.mpr ⟨cw_54, List.forall_mem_cons.mpr ⟨cw_55, List.forall_mem_cons.mpr ⟨cw_56, List.forall_mem_cons.mpr ⟨cw_57, List.forall_mem_cons.mpr ⟨cw_58, List.forall_mem_cons.mpr ⟨cw_59, List.forall_mem_cons.mpr ⟨cw_60, List.forall_mem_cons.mpr ⟨cw_61, List.forall_mem_cons.mpr ⟨cw_62, List.forall_mem_cons.mpr ⟨cw_63, fun _ h => absurd h List.not_mem_nil⟩⟩⟩⟩⟩⟩⟩⟩⟩⟩⟩⟩⟩⟩⟩⟩
def ix_tg4 : List ix_M := [mt_64, mt_65, mt_66, mt_67, mt_68, mt_69, mt_70, mt_71, mt_72, mt_73, mt_74, mt_75, mt_76, mt_77, mt_78, mt_79]
theorem cg_4 : ∀ M ∈ ix_tg4, ix_cw M ∈ lw_tbl := List.forall_mem_cons.mpr ⟨cw_64, List.forall_mem_cons.mpr ⟨cw_65, List.forall_mem_cons.mpr ⟨cw_66, List.forall_mem_cons.mpr ⟨cw_67, List.forall_mem_cons.mpr ⟨cw_68, List.forall_mem_cons.mpr ⟨cw_69, List.forall_mem_cons.mpr ⟨cw_70, List.forall_mem_cons.mpr ⟨cw_71, List.forall_mem_cons.mpr ⟨cw_72, List.forall_mem_cons.mpr ⟨cw_73, List.forall_mem_cons.mpr ⟨cw_74, List.forall_mem_cons.mpr ⟨cw_75, List.forall_mem_cons.mpr ⟨cw_76, List.forall_mem_cons.mpr ⟨cw_77, List.forall_mem_cons.mpr ⟨cw_78, List.forall_mem_cons.mpr ⟨cw_79, fun _ h => absurd h List.not_mem_nil⟩⟩⟩⟩⟩⟩⟩⟩⟩⟩⟩⟩⟩⟩⟩⟩
def ix_tg5 : List ix_M := [mt_80, mt_81, mt_82, mt_83, mt_84, mt_85, mt_86, mt_87, mt_88, mt_89, mt_90, mt_91, mt_92, mt_93, mt_94, mt_95]
theorem cg_5 : ∀ M ∈ ix_tg5, ix_cw M ∈ lw_tbl := List.forall_mem_cons.mpr ⟨cw_80, List.forall_mem_cons.mpr ⟨cw_81, List.forall_mem_cons.mpr ⟨cw_82, List.forall_mem_cons.mpr ⟨cw_83, List.forall_mem_cons.mpr ⟨cw_84, List.forall_mem_cons.mpr ⟨cw_85, List.forall_mem_cons.mpr ⟨cw_86, List.forall_mem_cons.mpr ⟨cw_87, List.forall_mem_cons.mpr ⟨cw_88, List.forall_mem_cons.mpr ⟨cw_89, List.forall_mem_cons.mpr ⟨cw_90, List.forall_mem_cons.mpr ⟨cw_91, List.forall_mem_cons.mpr ⟨cw_92, List.forall_mem_cons.mpr ⟨cw_93, List.forall_mem_cons.mpr ⟨cw_94, List.forall_mem_cons.mpr ⟨cw_95, fun _ h => absurd h List.not_mem_nil⟩⟩⟩⟩⟩⟩⟩⟩⟩⟩⟩⟩⟩⟩⟩⟩
def ix_tg6 : List ix_M := [mt_96, mt_97, mt_98, mt_99, mt_100, mt_101, mt_102, mt_103, mt_104, mt_105, mt_106, mt_107, mt_108, mt_109, mt_110, mt_111]
theorem cg_6 : ∀ M ∈ ix_tg6, ix_cw M ∈ lw_tbl := List.forall_mem_cons.mpr ⟨cw_96, List.forall_mem_cons.mpr ⟨cw_97, List.forall_mem_cons.mpr ⟨cw_98, List.forall_mem_cons.mpr ⟨cw_99, List.forall_mem_cons.mpr ⟨cw_100, List.forall_mem_cons.mpr ⟨cw_101, List.forall_mem_cons.mpr ⟨cw_102, List.forall_mem_cons.mpr ⟨cw_103, List.forall_mem_cons.mpr ⟨cw_104, List.forall_mem_cons.mpr ⟨cw_105, List.forall_mem_cons.mpr ⟨cw_106, List.forall_mem_cons.mpr ⟨cw_107, List.forall_mem_cons.mpr ⟨cw_108, List.forall_mem_cons.mpr ⟨cw_109, List.forall_mem_cons.mpr ⟨cw_110, List.forall_mem_cons.mpr ⟨cw_111, fun _ h => absurd h List.not_mem_nil⟩⟩⟩⟩⟩⟩⟩⟩⟩⟩⟩⟩⟩⟩⟩⟩
def ix_tg7 : List ix_M := [mt_112, mt_113, mt_114, mt_115, mt_116, mt_117, mt_118, mt_119, mt_120, mt_121, mt_122, mt_123, mt_124, mt_125, mt_126, mt_127]
theorem cg_7 : ∀ M ∈ ix_tg7, ix_cw M ∈ lw_tbl := List.forall_mem_cons.mpr ⟨cw_112, List.forall_mem_cons.mpr ⟨cw_113, List.forall_mem_cons.mpr ⟨cw_114, List.forall_mem_cons.mpr ⟨cw_115, List.forall_mem_cons.mpr ⟨cw_116, List.forall_mem_cons.mpr ⟨cw_117, List.forall_mem_cons.mpr ⟨cw_118, List.forall_mem_cons.mpr ⟨cw_119, List.forall_mem_cons.mpr ⟨cw_120, List.forall_mem_cons.mpr ⟨cw_121, List.forall_mem_cons.mpr ⟨cw_122, List.forall_mem_cons.mpr ⟨cw_123, List.forall_mem_cons.mpr ⟨cw_124, List.forall_mem_cons.mpr ⟨cw_125, List.forall_mem_cons.mpr ⟨cw_126, List.forall_mem_cons.mpr ⟨cw_127, fun _ h => absurd h List.not_mem_nil⟩⟩⟩⟩⟩⟩⟩⟩⟩⟩⟩⟩⟩⟩⟩⟩
def ix_tg8 : List ix_M := [mt_128, mt_129, mt_130, mt_131, mt_132, mt_133, mt_134, mt_135, mt_136, mt_137, mt_138, mt_139, mt_140, mt_141, mt_142, mt_143]
theorem cg_8 : ∀ M ∈ ix_tg8, ix_cw M ∈ lw_tbl := List.forall_mem_cons.mpr ⟨cw_128, List.forall_mem_cons.mpr ⟨cw_129, List.forall_mem_cons.mpr ⟨cw_130, List.forall_mem_cons.mpr ⟨cw_131, List.forall_mem_cons.mpr ⟨cw_132, List.forall_mem_cons.mpr ⟨cw_133, List.forall_mem_cons.mpr ⟨cw_134, List.forall_mem_cons.mpr ⟨cw_135, List.forall_mem_cons.mpr ⟨cw_136, List.forall_mem_cons.mpr ⟨cw_137, List.forall_mem_cons.mpr ⟨cw_138, List.forall_mem_cons.mpr ⟨cw_139, List.forall_mem_cons.mpr ⟨cw_140, List.forall_mem_cons.mpr ⟨cw_141, List.forall_mem_cons.mpr ⟨cw_142, List.forall_mem_cons.mpr ⟨cw_143, fun _ h => absurd h List.not_mem_nil⟩⟩⟩⟩⟩⟩⟩⟩⟩⟩⟩⟩⟩⟩⟩⟩
def ix_tg9 : List ix_M := [mt_144, mt_145, mt_146, mt_147, mt_148, mt_149, mt_150, mt_151, mt_152, mt_153, mt_154, mt_155, mt_156, mt_157, mt_158, mt_159]
theorem cg_9 : ∀ M ∈ ix_tg9, ix_cw M ∈ lw_tbl := List.forall_mem_cons.mpr ⟨cw_144, List.forall_mem_cons.mpr ⟨cw_145, List.forall_mem_cons.mpr ⟨cw_146, List.forall_mem_cons.mpr ⟨cw_147, List.forall_mem_cons.mpr ⟨cw_148, List.forall_mem_cons.mpr ⟨cw_149, List.forall_mem_cons.mpr ⟨cw_150, List.forall_mem_cons.mpr ⟨cw_151, List.forall_mem_cons.mpr ⟨cw_152, List.forall_mem_cons.mpr ⟨cw_153, List.forall_mem_cons.mpr ⟨cw_154, List.forall_mem_cons.mpr ⟨cw_155, List.forall_mem_cons.mpr ⟨cw_156, List.forall_mem_cons.mpr ⟨cw_157, List.forall_mem_cons.mpr ⟨cw_158, List.forall_mem_cons.mpr ⟨cw_159, fun _ h => absurd h List.not_mem_nil⟩⟩⟩⟩⟩⟩⟩⟩⟩⟩⟩⟩⟩⟩⟩⟩
def ix_tg10 : List ix_M := [mt_160, mt_161, mt_162, mt_163, mt_164, mt_165, mt_166, mt_167, mt_168, mt_169, mt_170, mt_171, mt_172, mt_173, mt_174, mt_175]
theorem cg_10 : ∀ M ∈ ix_tg10, ix_cw M ∈ lw_tbl := List.forall_mem_cons.mpr ⟨cw_160, List.forall_mem_cons.mpr ⟨cw_161, List.forall_mem_cons.mpr ⟨cw_162, List.forall_mem_cons.mpr ⟨cw_163, List.forall_mem_cons.mpr ⟨cw_164, List.forall_mem_cons.mpr ⟨cw_165, List.forall_mem_cons.mpr ⟨cw_166, List.forall_mem_cons.mpr ⟨cw_167, List.forall_mem_cons.mpr ⟨cw_168, List.forall_mem_cons.mpr ⟨cw_169, List.forall_mem_cons.mpr ⟨cw_170, List.forall_mem_cons.mpr ⟨cw_171, List.forall_mem_cons.mpr ⟨cw_172, List.forall_mem_cons.mpr ⟨cw_173, List.forall_mem_cons.mpr ⟨cw_174, List.forall_mem_cons.mpr ⟨cw_175, fun _ h => absurd h List.not_mem_nil⟩⟩⟩⟩⟩⟩⟩⟩⟩⟩⟩⟩⟩⟩⟩⟩
def ix_tg11 : List ix_M := [mt_176, mt_177, mt_178, mt_179, mt_180, mt_181, mt_182, mt_183, mt_184, mt_185, mt_186, mt_187, mt_188, mt_189, mt_190, mt_191]
theorem cg_11 : ∀ M ∈ ix_tg11, ix_cw M ∈ lw_tbl := List.forall_mem_cons.mpr ⟨cw_176, List.forall_mem_cons.mpr ⟨cw_177, List.forall_mem_cons.mpr ⟨cw_178, List.forall_mem_cons.mpr ⟨cw_179, List.forall_mem_cons.mpr ⟨cw_180, List.forall_mem_cons.mpr ⟨cw_181, List.forall_mem_cons.mpr ⟨cw_182, List.forall_mem_cons.mpr ⟨cw_183, List.forall_mem_cons.mpr ⟨cw_184, List.forall_mem_cons.mpr ⟨cw_185, List.forall_mem_cons.mpr ⟨cw_186, List.forall_mem_cons.mpr ⟨cw_187, List.forall_mem_cons.mpr ⟨cw_188, List.forall_mem_cons.mpr ⟨cw_189, List.forall_mem_cons.mpr ⟨cw_190, List.forall_mem_cons.mpr ⟨cw_191, fun _ h => absurd h List.not_mem_nil⟩⟩⟩⟩⟩⟩⟩⟩⟩⟩⟩⟩⟩⟩⟩⟩
def ix_tg12 : List ix_M := [mt_192, mt_193, mt_194, mt_195, mt_196, mt_197, mt_198, mt_199, mt_200, mt_201, mt_202, mt_203, mt_204, mt_205, mt_206, mt_207]
theorem cg_12 : ∀ M ∈ ix_tg12, ix_cw M ∈ lw_tbl := List.forall_mem_cons.mpr ⟨cw_192, List.forall_mem_cons.mpr ⟨cw_193, List.forall_mem_cons.mpr ⟨cw_194, List.forall_mem_cons.mpr ⟨cw_195, List.forall_mem_cons.mpr ⟨cw_196, List.forall_mem_cons.mpr ⟨cw_197, List.forall_mem_cons.mpr ⟨cw_198, List.forall_mem_cons.mpr ⟨cw_199, List.forall_mem_cons.mpr ⟨cw_200, List.forall_mem_cons.mpr ⟨cw_201, List.forall_mem_cons.mpr ⟨cw_202, List.forall_mem_cons.mpr ⟨cw_203, List.forall_mem_cons.mpr ⟨cw_204, List.forall_mem_cons.mpr ⟨cw_205, List.forall_mem_cons.mpr ⟨cw_206, List.forall_mem_cons.mpr ⟨cw_207, fun _ h => absurd h List.not_mem_nil⟩⟩⟩⟩⟩⟩⟩⟩⟩⟩⟩⟩⟩⟩⟩⟩
def ix_tg13 : List ix_M := [mt_208, mt_209, mt_210, mt_211, mt_212, mt_213, mt_214, mt_215, mt_216, mt_217, mt_218, mt_219, mt_220, mt_221, mt_222, mt_223]
theorem cg_13 : ∀ M ∈ ix_tg13, ix_cw M ∈ lw_tbl := List.forall_mem_cons.mpr ⟨cw_208, List.forall_mem_cons.mpr ⟨cw_209, List.forall_mem_cons.mpr ⟨cw_210, List.forall_mem_cons.mpr ⟨cw_211, List.forall_mem_cons.mpr ⟨cw_212, List.forall_mem_cons.mpr ⟨cw_213, List.forall_mem_cons.mpr ⟨cw_214, List.forall_mem_cons.mpr ⟨cw_215, List.forall_mem_cons.mpr ⟨cw_216, List.forall_mem_cons.mpr ⟨cw_217, List.forall_mem_cons.mpr ⟨cw_218, List.forall_mem_cons.mpr ⟨cw_219, List.forall_mem_cons.mpr ⟨cw_220, List.forall_mem_cons.mpr ⟨cw_221, List.forall_mem_cons.mpr ⟨cw_222, List.forall_mem_cons.mpr ⟨cw_223, fun _ h => absurd h List.not_mem_nil⟩⟩⟩⟩⟩⟩⟩⟩⟩⟩⟩⟩⟩⟩⟩⟩
def ix_tg14 : List ix_M := [mt_224, mt_225, mt_226, mt_227, mt_228, mt_229, mt_230, mt_231, mt_232, mt_233, mt_234, mt_235, mt_236, mt_237, mt_238, mt_239]
theorem cg_14 : ∀ M ∈ ix_tg14, ix_cw M ∈ lw_tbl := List.forall_mem_cons.mpr ⟨cw_224, List.forall_mem_cons.mpr ⟨cw_225, List.forall_mem_cons.mpr ⟨cw_226, List.forall_mem_cons.mpr ⟨cw_227, List.forall_mem_cons.mpr ⟨cw_228, List.forall_mem_cons.mpr ⟨cw_229, List.forall_mem_cons.mpr ⟨cw_230, List.forall_mem_cons.mpr ⟨cw_231, List.forall_mem_cons.mpr ⟨cw_232, List.forall_mem_cons.mpr ⟨cw_233, List.forall_mem_cons.mpr ⟨cw_234, List.forall_mem_cons.mpr ⟨cw_235, List.forall_mem_cons.mpr ⟨cw_236, List.forall_mem_cons.mpr ⟨cw_237, List.forall_mem_cons.mpr ⟨cw_238, List.forall_mem_cons.mpr ⟨cw_239, fun _ h => absurd h List.not_mem_nil⟩⟩⟩⟩⟩⟩⟩⟩⟩⟩⟩⟩⟩⟩⟩⟩
def ix_tg15 : List ix_M := [mt_240, mt_241, mt_242, mt_243, mt_244, mt_245, mt_246, mt_247, mt_248, mt_249, mt_250, mt_251, mt_252, mt_253, mt_254, mt_255]
theorem cg_15 : ∀ M ∈ ix_tg15, ix_cw M ∈ lw_tbl := List.forall_mem_cons.mpr ⟨cw_240, List.forall_mem_cons.mpr ⟨cw_241, List.forall_mem_cons.mpr ⟨cw_242, List.forall_mem_cons.mpr ⟨cw_243, List.forall_mem_cons.mpr ⟨cw_244, List.forall_mem_cons.mpr ⟨cw_245, List.forall_mem_cons.mpr ⟨cw_246, List.forall_mem_cons.mpr ⟨cw_247, List.forall_mem_cons.mpr ⟨cw_248, List.forall_mem_cons.mpr ⟨cw_249, List.forall_mem_cons.mpr ⟨cw_250, List.forall_mem_cons.mpr ⟨cw_251, List.forall_mem_cons.mpr ⟨cw_252, List.forall_mem_cons.mpr ⟨cw_253, List.forall_mem_cons.mpr ⟨cw_254, List.forall_mem_cons.mpr ⟨cw_255, fun _ h => absurd h List.not_mem_nil⟩⟩⟩⟩⟩⟩⟩⟩⟩⟩⟩⟩⟩⟩⟩⟩
def ix_tg16 : List ix_M := [mt_256, mt_257, mt_258, mt_259]
theorem cg_16 : ∀ M ∈ ix_tg16, ix_cw M ∈ lw_tbl := List.forall_mem_cons.mpr ⟨cw_256, List.forall_mem_cons.mpr ⟨cw_257, List.forall_mem_cons.mpr ⟨cw_258, List.forall_mem_cons.mpr ⟨cw_259, fun _ h => absurd h List.not_mem_nil⟩⟩⟩⟩
def ix_tabP : List ix_M := ix_tg0 ++ (ix_tg1 ++ (ix_tg2 ++ (ix_tg3 ++ (ix_tg4 ++ (ix_tg5 ++ (ix_tg6 ++ (ix_tg7 ++ (ix_tg8 ++ (ix_tg9 ++ (ix_tg10 ++ (ix_tg11 ++ (ix_tg12 ++ (ix_tg13 ++ (ix_tg14 ++ (ix_tg15 ++ (ix_tg16
))))))))))))))))
theorem ix_cwP : ∀ M ∈ ix_tabP, ix_cw M ∈ lw_tbl := List.forall_mem_append.mpr ⟨cg_0, List.forall_mem_append.mpr ⟨cg_1, List.forall_mem_append.mpr ⟨cg_2, List.forall_mem_append.mpr ⟨cg_3, List.forall_mem_append.mpr ⟨cg_4, List.forall_mem_append.mpr ⟨cg_5, List.forall_mem_append.mpr ⟨cg_6, List.forall_mem_append.mpr ⟨cg_7, List.forall_mem_append.mpr ⟨cg_8, List.forall_mem_append.mpr ⟨cg_9, List.forall_mem_append.mpr ⟨cg_10, List.forall_mem_append.mpr ⟨cg_11, List.forall_mem_append.mpr ⟨cg_12, List.forall_mem_append.mpr ⟨cg_13, List.forall_mem_append.mpr ⟨cg_14, List.forall_mem_append.mpr ⟨cg_15, cg_16⟩⟩⟩⟩⟩⟩⟩⟩⟩⟩⟩⟩⟩⟩⟩⟩
def ix_hh (mi : Nat) : List (Nat × Nat × Nat × Nat) := ([[(0, 9, 12, 13)], [(0, 9, 12, 13)], [(0, 9, 12, 13)], [(0, 9, 12, 13)], [(0, 9, 12, 13)], [(0, 10, 13, 31), (0, 10, 17, 13)], [(0, 10, 13, 31), (0, 10, 17, 13)], [(0, 22, 25, 13)], [(0, 10, 13, 13)], [(0, 9, 12, 31)], [(0, 9, 12, 31)], [(0, 9, 12, 13)], [(0, 10, 13, 31), (0, 10, 17, 13)], [(0, 9, 12, 13)], [(0, 9, 12, 13)], [(0, 10, 13, 31)], [(0, 10, 13, 13)], [(0, 10, 13, 13)], [(0, 12, 15, 31), (0, 12, 19, 13)], [(0, 10, 13, 31), (0, 10, 17, 13)], [(0, 12, 15, 13)], [(0, 12, 15, 31), (0, 12, 19, 13)], [(0, 9, 12, 13)], [(0, 10, 13, 31), (0, 10, 17, 13)], [(0, 16, 19, 13)], [(0, 20, 23, 13)]] : List (List (Nat × Nat × Nat × Nat))).getD (mi - 260) []
def ix_hw (mi : Nat) (q : MethodName × ByteArray × Nat × Option FieldType) : Cond := if mi < 260 ∨ 286 ≤ mi then .code q.1 q.2.1 q.2.2.1 q.2.2.2 else .codeWith q.1 q.2.1 q.2.2.1 q.2.2.2 (ix_hh mi)
theorem cW_260 : Cond.codeWith (ix_my mt_260) (ix_mb mt_260) (ix_ml mt_260) (ix_mr mt_260) (ix_hh 260) ∈ lw_tbl := ix_tbl (List.mem_append_right _ (List.mem_append_right _ (List.mem_append_left _ (List.mem_of_getElem? (i := 78) rfl))))
theorem cW_261 : Cond.codeWith (ix_my mt_261) (ix_mb mt_261) (ix_ml mt_261) (ix_mr mt_261) (ix_hh 261) ∈ lw_tbl := ix_tbl (List.mem_append_right _ (List.mem_append_right _ (List.mem_append_right _ (List.mem_append_left _ (List.mem_of_getElem? (i := 92) rfl)))))
theorem cW_262 : Cond.codeWith (ix_my mt_262) (ix_mb mt_262) (ix_ml mt_262) (ix_mr mt_262) (ix_hh 262) ∈ lw_tbl := ix_tbl (List.mem_append_right _ (List.mem_append_right _ (List.mem_append_right _ (List.mem_append_left _ (List.mem_of_getElem? (i := 158) rfl)))))
theorem cW_263 : Cond.codeWith (ix_my mt_263) (ix_mb mt_263) (ix_ml mt_263) (ix_mr mt_263) (ix_hh 263) ∈ lw_tbl := ix_tbl (List.mem_append_right _ (List.mem_append_right _ (List.mem_append_right _ (List.mem_append_right _ (List.mem_append_left _ (List.mem_of_getElem? (i := 55) rfl))))))
theorem cW_264 : Cond.codeWith (ix_my mt_264) (ix_mb mt_264) (ix_ml mt_264) (ix_mr mt_264) (ix_hh 264) ∈ lw_tbl := ix_tbl (List.mem_append_right _ (List.mem_append_right _ (List.mem_append_right _ (List.mem_append_right _ (List.mem_append_left _ (List.mem_of_getElem? (i := 80) rfl))))))
theorem cW_265 : Cond.codeWith (ix_my mt_265) (ix_mb mt_265) (ix_ml mt_265) (ix_mr mt_265) (ix_hh 265) ∈ lw_tbl := ix_tbl (List.mem_append_right _ (List.mem_append_right _ (List.mem_append_right _ (List.mem_append_right _ (List.mem_append_left _ (List.mem_of_getElem? (i := 111) rfl))))))
theorem cW_266 : Cond.codeWith (ix_my mt_266) (ix_mb mt_266) (ix_ml mt_266) (ix_mr mt_266) (ix_hh 266) ∈ lw_tbl := ix_tbl (List.mem_append_right _ (List.mem_append_right _ (List.mem_append_right _ (List.mem_append_right _ (List.mem_append_left _ (List.mem_of_getElem? (i := 146) rfl))))))
theorem cW_267 : Cond.codeWith (ix_my mt_267) (ix_mb mt_267) (ix_ml mt_267) (ix_mr mt_267) (ix_hh 267) ∈ lw_tbl := ix_tbl (List.mem_append_right _ (List.mem_append_right _ (List.mem_append_right _ (List.mem_append_right _ (List.mem_append_left _ (List.mem_of_getElem? (i := 159) rfl))))))
theorem cW_268 : Cond.codeWith (ix_my mt_268) (ix_mb mt_268) (ix_ml mt_268) (ix_mr mt_268) (ix_hh 268) ∈ lw_tbl := ix_tbl (List.mem_append_right _ (List.mem_append_right _ (List.mem_append_right _ (List.mem_append_right _ (List.mem_append_left _ (List.mem_of_getElem? (i := 171) rfl))))))
theorem cW_269 : Cond.codeWith (ix_my mt_269) (ix_mb mt_269) (ix_ml mt_269) (ix_mr mt_269) (ix_hh 269) ∈ lw_tbl := ix_tbl (List.mem_append_right _ (List.mem_append_right _ (List.mem_append_right _ (List.mem_append_right _ (List.mem_append_left _ (List.mem_of_getElem? (i := 183) rfl))))))
theorem cW_270 : Cond.codeWith (ix_my mt_270) (ix_mb mt_270) (ix_ml mt_270) (ix_mr mt_270) (ix_hh 270) ∈ lw_tbl := ix_tbl (List.mem_append_right _ (List.mem_append_right _ (List.mem_append_right _ (List.mem_append_right _ (List.mem_append_left _ (List.mem_of_getElem? (i := 190) rfl))))))
theorem cW_271 : Cond.codeWith (ix_my mt_271) (ix_mb mt_271) (ix_ml mt_271) (ix_mr mt_271) (ix_hh 271) ∈ lw_tbl := ix_tbl (List.mem_append_right _ (List.mem_append_right _ (List.mem_append_right _ (List.mem_append_right _ (List.mem_append_left _ (List.mem_of_getElem? (i := 197) rfl))))))
theorem cW_272 : Cond.codeWith (ix_my mt_272) (ix_mb mt_272) (ix_ml mt_272) (ix_mr mt_272) (ix_hh 272) ∈ lw_tbl := ix_tbl (List.mem_append_right _ (List.mem_append_right _ (List.mem_append_right _ (List.mem_append_right _ (List.mem_append_left _ (List.mem_of_getElem? (i := 233) rfl))))))
theorem cW_273 : Cond.codeWith (ix_my mt_273) (ix_mb mt_273) (ix_ml mt_273) (ix_mr mt_273) (ix_hh 273) ∈ lw_tbl := ix_tbl (List.mem_append_right _ (List.mem_append_right _ (List.mem_append_right _ (List.mem_append_right _ (List.mem_append_right _ (List.mem_append_left _ (List.mem_of_getElem? (i := 4) rfl)))))))
theorem cW_274 : Cond.codeWith (ix_my mt_274) (ix_mb mt_274) (ix_ml mt_274) (ix_mr mt_274) (ix_hh 274) ∈ lw_tbl := ix_tbl (List.mem_append_right _ (List.mem_append_right _ (List.mem_append_right _ (List.mem_append_right _ (List.mem_append_right _ (List.mem_append_left _ (List.mem_of_getElem? (i := 29) rfl)))))))
theorem cW_275 : Cond.codeWith (ix_my mt_275) (ix_mb mt_275) (ix_ml mt_275) (ix_mr mt_275) (ix_hh 275) ∈ lw_tbl := ix_tbl (List.mem_append_right _ (List.mem_append_right _ (List.mem_append_right _ (List.mem_append_right _ (List.mem_append_right _ (List.mem_append_left _ (List.mem_of_getElem? (i := 49) rfl)))))))
theorem cW_276 : Cond.codeWith (ix_my mt_276) (ix_mb mt_276) (ix_ml mt_276) (ix_mr mt_276) (ix_hh 276) ∈ lw_tbl := ix_tbl (List.mem_append_right _ (List.mem_append_right _ (List.mem_append_right _ (List.mem_append_right _ (List.mem_append_right _ (List.mem_append_left _ (List.mem_of_getElem? (i := 63) rfl)))))))
theorem cW_277 : Cond.codeWith (ix_my mt_277) (ix_mb mt_277) (ix_ml mt_277) (ix_mr mt_277) (ix_hh 277) ∈ lw_tbl := ix_tbl (List.mem_append_right _ (List.mem_append_right _ (List.mem_append_right _ (List.mem_append_right _ (List.mem_append_right _ (List.mem_append_left _ (List.mem_of_getElem? (i := 70) rfl)))))))
theorem cW_278 : Cond.codeWith (ix_my mt_278) (ix_mb mt_278) (ix_ml mt_278) (ix_mr mt_278) (ix_hh 278) ∈ lw_tbl := ix_tbl (List.mem_append_right _ (List.mem_append_right _ (List.mem_append_right _ (List.mem_append_right _ (List.mem_append_right _ (List.mem_append_left _ (List.mem_of_getElem? (i := 78) rfl)))))))
theorem cW_279 : Cond.codeWith (ix_my mt_279) (ix_mb mt_279) (ix_ml mt_279) (ix_mr mt_279) (ix_hh 279) ∈ lw_tbl := ix_tbl (List.mem_append_right _ (List.mem_append_right _ (List.mem_append_right _ (List.mem_append_right _ (List.mem_append_right _ (List.mem_append_left _ (List.mem_of_getElem? (i := 89) rfl)))))))
theorem cW_280 : Cond.codeWith (ix_my mt_280) (ix_mb mt_280) (ix_ml mt_280) (ix_mr mt_280) (ix_hh 280) ∈ lw_tbl := ix_tbl (List.mem_append_right _ (List.mem_append_right _ (List.mem_append_right _ (List.mem_append_right _ (List.mem_append_right _ (List.mem_append_left _ (List.mem_of_getElem? (i := 101) rfl)))))))
theorem cW_281 : Cond.codeWith (ix_my mt_281) (ix_mb mt_281) (ix_ml mt_281) (ix_mr mt_281) (ix_hh 281) ∈ lw_tbl := ix_tbl (List.mem_append_right _ (List.mem_append_right _ (List.mem_append_right _ (List.mem_append_right _ (List.mem_append_right _ (List.mem_append_left _ (List.mem_of_getElem? (i := 114) rfl)))))))
theorem cW_282 : Cond.codeWith (ix_my mt_282) (ix_mb mt_282) (ix_ml mt_282) (ix_mr mt_282) (ix_hh 282) ∈ lw_tbl := ix_tbl (List.mem_append_right _ (List.mem_append_right _ (List.mem_append_right _ (List.mem_append_right _ (List.mem_append_right _ (List.mem_append_left _ (List.mem_of_getElem? (i := 123) rfl)))))))
theorem cW_283 : Cond.codeWith (ix_my mt_283) (ix_mb mt_283) (ix_ml mt_283) (ix_mr mt_283) (ix_hh 283) ∈ lw_tbl := ix_tbl (List.mem_append_right _ (List.mem_append_right _ (List.mem_append_right _ (List.mem_append_right _ (List.mem_append_right _ (List.mem_append_left _ (List.mem_of_getElem? (i := 130) rfl)))))))
theorem cW_284 : Cond.codeWith (ix_my mt_284) (ix_mb mt_284) (ix_ml mt_284) (ix_mr mt_284) (ix_hh 284) ∈ lw_tbl := ix_tbl (List.mem_append_right _ (List.mem_append_right _ (List.mem_append_right _ (List.mem_append_right _ (List.mem_append_right _ (List.mem_append_left _ (List.mem_of_getElem? (i := 138) rfl)))))))
theorem cW_285 : Cond.codeWith (ix_my mt_285) (ix_mb mt_285) (ix_ml mt_285) (ix_mr mt_285) (ix_hh 285) ∈ lw_tbl := ix_tbl (List.mem_append_right _ (List.mem_append_right _ (List.mem_append_right _ (List.mem_append_right _ (List.mem_append_right _ (List.mem_append_left _ (List.mem_of_getElem? (i := 161) rfl)))))))
theorem cQ_900 : ∀ q, ix_cal 900 = some q → ix_hw 900 q ∈ lw_tbl := by
  intro q h
  cases h
  exact ix_tbl (List.mem_append_right _ (List.mem_append_right _ (List.mem_append_left _ (List.mem_of_getElem? (i := 200) rfl))))
theorem cQ_901 : ∀ q, ix_cal 901 = some q → ix_hw 901 q ∈ lw_tbl := by
  intro q h
  cases h
  exact ix_tbl (List.mem_append_right _ (List.mem_append_right _ (List.mem_append_left _ (List.mem_of_getElem? (i := 210) rfl))))
end
section
def ix_cv (ad : Nat → Nat) : Value → Value
  | .ref a => .ref (ad a)
  | v => v
theorem ix_cv_cat (ad : Nat → Nat) (v : Value) : (ix_cv ad v).category = v.category := by cases v <;> rfl
def ix_Lh (ad : Nat → Nat) (lsA : Array Slot) (nL : Nat) (ls : List Value) : Prop :=
  ls.length = nL ∧ (∀ v ∈ ls, v.category = 1) ∧ ∃ lv : List (Nat × Value), lv_has lsA nL lv ∧ ∀ (i : Nat) (v : Value), ls[i]? = some v → v ≠ .null → (i, ix_cv ad v) ∈ lv
theorem ix_Lh.size {ad : Nat → Nat} {lsA : Array Slot} {nL : Nat} {ls : List Value} (h : ix_Lh ad lsA nL ls) : lsA.size = nL := by
  obtain ⟨-, -, lv, h, -⟩ := h
  exact h.1
theorem ix_Lh.get {ad : Nat → Nat} {lsA : Array Slot} {nL : Nat} {ls : List Value} (h : ix_Lh ad lsA nL ls) {i : Nat} {v : Value} (hv : ls[i]? = some v) (hn : v ≠ .null) : lsA[i]? = some (.val (ix_cv ad v)) := by
  obtain ⟨-, -, lv, h1, h2⟩ := h
  exact h1.2.2 _ (h2 i v hv hn)
theorem ix_Lh.put {ad : Nat → Nat} {lsA' : Array Slot} {nL i : Nat} {ls : List Value} {lv : List (Nat × Value)} {x : Value} (h0 : ls.length = nL) (hc : ∀ v ∈ ls, v.category = 1) (h2 : ∀ (i : Nat) (v : Value), ls[i]? = some v → v ≠ .null → (i, ix_cv ad v) ∈ lv) (hx : x.category = 1)
    (h1 : lv_has lsA' nL ((i, ix_cv ad x) :: lv.filter (fun q => !(q.1 == i) && !(q.1 + 1 == i && q.2.category == 2)))) : ix_Lh ad lsA' nL (ls.set i x) := by
  refine ⟨by rw [List.length_set]; exact h0, fun v hv => ?_, _, h1, fun j v hj hn => ?_⟩
  · rcases List.mem_or_eq_of_mem_set hv with h | h
    · exact hc v h
    · rw [h]; exact hx
  · rw [List.getElem?_set] at hj
    by_cases hij : i = j
    · subst hij
      rw [if_pos rfl] at hj
      split at hj
      · cases hj
        exact List.mem_cons_self
      · cases hj
    · rw [if_neg hij] at hj
      refine List.mem_cons_of_mem _ (List.mem_filter.mpr ⟨h2 j v hj hn, ?_⟩)
      have hcat := hc v (List.mem_of_getElem? hj)
      have hij' : (j == i) = false := by simpa using fun e => hij e.symm
      have hc2 : ((ix_cv ad v).category == 2) = false := by rw [ix_cv_cat, hcat]; rfl
      simp only [hij', hc2, Bool.not_false, Bool.and_false, Bool.and_true]
theorem ix_Lh.drop {ad : Nat → Nat} {lsA' : Array Slot} {nL i : Nat} {ls : List Value} {lv : List (Nat × Value)} {x : Value} (h0 : ls.length = nL) (hc : ∀ v ∈ ls, v.category = 1) (h2 : ∀ (i : Nat) (v : Value), ls[i]? = some v → v ≠ .null → (i, ix_cv ad v) ∈ lv)
    (h1 : lv_has lsA' nL ((i, x) :: lv.filter (fun q => !(q.1 == i) && !(q.1 + 1 == i && q.2.category == 2)))) : ix_Lh ad lsA' nL (ls.set i .null) := by
  refine ⟨by rw [List.length_set]; exact h0, fun v hv => ?_, _, h1, fun j v hj hn => ?_⟩
  · rcases List.mem_or_eq_of_mem_set hv with h | h
    · exact hc v h
    · rw [h]; rfl
  · rw [List.getElem?_set] at hj
    by_cases hij : i = j
    · subst hij
      rw [if_pos rfl] at hj
      split at hj
      · cases hj
        exact absurd rfl hn
      · cases hj
    · rw [if_neg hij] at hj
      refine List.mem_cons_of_mem _ (List.mem_filter.mpr ⟨h2 j v hj hn, ?_⟩)
      have hcat := hc v (List.mem_of_getElem? hj)
      have hij' : (j == i) = false := by simpa using fun e => hij e.symm
      have hc2 : ((ix_cv ad v).category == 2) = false := by rw [ix_cv_cat, hcat]; rfl
      simp only [hij', hc2, Bool.not_false, Bool.and_false, Bool.and_true]
section IXA
variable {p : Program} {l : Launch} {e : Env} {R : Room} {s : State} {m : MethodId} {args : Array Value} {below : List Frame} {meth : Method} {c : Code} {H : Heap} {locs : List Loc} {cells slots : Nat} {Q : State → Prop}
variable {cc : ByteArray} {pc nL : Nat} {lsA : Array Slot} {ls st : List Value} {ad : Nat → Nat} {o : ix_Op} {own : Nat} {ops : List ix_Op}
theorem ix_l1 (hx : p.tables.exec = Jvm.exec) (hb : c.code = cc) (hown : s.vm.findClass (ix_cn own) = some m.cls) (hco : ∀ (i : Nat) (v : Int32), (own, i, v) ∈ ix_cks → (Jvm.Cond.constant (ix_cn own) i v).before args s = true)
    (hst : ∀ (i x : Nat), (own, i, x) ∈ ix_sks → ∃ tx : String, vk_R (ix_cn own) i tx (ad x) s)
    (hdg : decode cc pc = .ok (ix_ins o, ix_len o)) (hlen : ix_lenof (ix_ins o) = ix_len o ∨ ix_lenof (ix_ins o) = 0) (hres : ix_res own cc ops o = true) (hL : ix_Lh ad lsA nL ls) {q : List Value × List Value} (h : ix_g1 o ls st = some q)
    (kk : ∀ lsA' : Array Slot, ix_Lh ad lsA' nL q.1 → W p l e R s m args below meth c H locs cells slots Q (F0 m (pc + ix_len o) lsA' (q.2.map (ix_cv ad)))) :
    W p l e R s m args below meth c H locs cells slots Q (F0 m pc lsA (st.map (ix_cv ad))) := by
  unfold ix_g1 at h
  split at h
  · rename_i n he
    rw [he] at hdg hlen
    have hn : ix_len o = 1 := by rcases hlen with h1 | h1 <;> first | exact h1.symm | cases h1
    rw [hn] at hdg kk
    cases h
    exact lv_iconst hx hb hdg rfl (kk lsA hL)
  · rename_i n he
    rw [he] at hdg hlen
    have hn : ix_len o = 2 := by rcases hlen with h1 | h1 <;> first | exact h1.symm | cases h1
    rw [hn] at hdg kk
    cases h
    exact lv_bipush hx hb hdg rfl (kk lsA hL)
  · rename_i n he
    rw [he] at hdg hlen
    have hn : ix_len o = 3 := by rcases hlen with h1 | h1 <;> first | exact h1.symm | cases h1
    rw [hn] at hdg kk
    cases h
    exact lv_sipush hx hb hdg rfl (kk lsA hL)
  · rename_i n he
    rw [he] at hdg hlen
    have hn : ix_len o = 2 := by rcases hlen with h1 | h1 <;> first | exact h1.symm | cases h1
    rw [hn] at hdg kk
    unfold ix_res at hres
    rw [he] at hres
    dsimp only at hres
    split at h
    · rename_i hz
      rw [if_pos hz] at hres
      cases h
      exact lv_ldc hx hb hown (hco _ _ (of_decide_eq_true hres)) hdg (kk lsA hL)
    · rename_i hz
      split at h
      · rename_i hz1
        rw [if_neg hz, if_pos hz1] at hres
        cases h
        obtain ⟨tx, hR⟩ := hst _ _ (of_decide_eq_true hres)
        exact va_ldcS hx hb hown hR hdg (kk lsA hL)
      · cases h
  · rename_i n he
    rw [he] at hdg hlen
    have hn : ix_len o = 3 := by rcases hlen with h1 | h1 <;> first | exact h1.symm | cases h1
    rw [hn] at hdg kk
    unfold ix_res at hres
    rw [he] at hres
    dsimp only at hres
    split at h
    · rename_i hz
      rw [if_pos hz] at hres
      cases h
      exact lv_ldcw hx hb hown (hco _ _ (of_decide_eq_true hres)) hdg (kk lsA hL)
    · cases h
  · rename_i n he
    rw [he] at hdg hlen
    have hn : ix_len o = 1 := by rcases hlen with h1 | h1 <;> first | exact h1.symm | cases h1
    rw [hn] at hdg kk
    split at h
    · rename_i x hg
      cases h
      exact lv_iload_n hx hb hdg rfl (hL.get hg (by simp)) (kk lsA hL)
    · cases h
  · rename_i n he
    rw [he] at hdg hlen
    have hn : ix_len o = 2 := by rcases hlen with h1 | h1 <;> first | exact h1.symm | cases h1
    rw [hn] at hdg kk
    split at h
    · rename_i x hg
      cases h
      exact lv_iload hx hb hdg (hL.get hg (by simp)) (kk lsA hL)
    · cases h
  · rename_i n he
    rw [he] at hdg hlen
    have hn : ix_len o = 1 := by rcases hlen with h1 | h1 <;> first | exact h1.symm | cases h1
    rw [hn] at hdg kk
    split at h
    · rename_i x hg
      cases h
      exact lv_aload_n hx hb hdg rfl (hL.get hg (by simp)) (kk lsA hL)
    · cases h
  · rename_i n he
    rw [he] at hdg hlen
    have hn : ix_len o = 2 := by rcases hlen with h1 | h1 <;> first | exact h1.symm | cases h1
    rw [hn] at hdg kk
    split at h
    · rename_i x hg
      cases h
      exact lv_aload hx hb hdg (hL.get hg (by simp)) (kk lsA hL)
    · cases h
  · rename_i i n he
    rw [he] at hdg hlen
    have hn : ix_len o = 3 := by rcases hlen with h1 | h1 <;> first | exact h1.symm | cases h1
    rw [hn] at hdg kk
    split at h
    · rename_i x hg
      cases h
      obtain ⟨h0, hc, lv, h1, h2⟩ := hL
      obtain ⟨k, hk⟩ := List.getElem?_of_mem (h2 i _ hg (by simp))
      have hi : i < nL := by rw [← h0]; exact (List.getElem?_eq_some_iff.mp hg).1
      exact lv_iinc hx hb hdg h1 hk rfl hi rfl (fun ls' hl' => kk ls' (ix_Lh.put (x := .int (x + Int32.ofInt n)) h0 hc h2 rfl hl'))
    · cases h
  · cases h
end IXA
end
section
section IXB
variable {p : Program} {l : Launch} {e : Env} {R : Room} {s : State} {m : MethodId} {args : Array Value} {below : List Frame} {meth : Method} {c : Code} {H : Heap} {locs : List Loc} {cells slots : Nat} {Q : State → Prop}
variable {cc : ByteArray} {pc nL : Nat} {lsA : Array Slot} {ls st : List Value} {ad : Nat → Nat} {o : ix_Op} {own : Nat} {ops : List ix_Op}
theorem ix_l2 (hx : p.tables.exec = Jvm.exec) (hb : c.code = cc)
    (hdg : decode cc pc = .ok (ix_ins o, ix_len o)) (hlen : ix_lenof (ix_ins o) = ix_len o ∨ ix_lenof (ix_ins o) = 0) (hL : ix_Lh ad lsA nL ls) {q : List Value × List Value} (h : ix_g2 o ls st = some q)
    (kk : ∀ lsA' : Array Slot, ix_Lh ad lsA' nL q.1 → W p l e R s m args below meth c H locs cells slots Q (F0 m (pc + ix_len o) lsA' (q.2.map (ix_cv ad)))) :
    W p l e R s m args below meth c H locs cells slots Q (F0 m pc lsA (st.map (ix_cv ad))) := by
  unfold ix_g2 at h
  split at h
  · rename_i k x r he
    rw [he] at hdg hlen
    have hn : ix_len o = 1 := by rcases hlen with h1 | h1 <;> first | exact h1.symm | cases h1
    rw [hn] at hdg kk
    split at h
    · rename_i hk
      cases h
      obtain ⟨h0, hc, lv, h1, h2⟩ := hL
      exact lv_istore_n hx hb hdg rfl h1 (by rw [← h0]; exact hk) rfl (fun ls' hl' => kk ls' (ix_Lh.put (x := .int x) h0 hc h2 rfl hl'))
    · cases h
  · rename_i k x r he
    rw [he] at hdg hlen
    have hn : ix_len o = 2 := by rcases hlen with h1 | h1 <;> first | exact h1.symm | cases h1
    rw [hn] at hdg kk
    split at h
    · rename_i hk
      cases h
      obtain ⟨h0, hc, lv, h1, h2⟩ := hL
      exact lv_istore hx hb hdg h1 (by rw [← h0]; exact hk) rfl (fun ls' hl' => kk ls' (ix_Lh.put (x := .int x) h0 hc h2 rfl hl'))
    · cases h
  · rename_i k x r he
    rw [he] at hdg hlen
    have hn : ix_len o = 1 := by rcases hlen with h1 | h1 <;> first | exact h1.symm | cases h1
    rw [hn] at hdg kk
    split at h
    · rename_i hk
      cases h
      obtain ⟨h0, hc, lv, h1, h2⟩ := hL
      exact lv_astore_n hx hb hdg rfl h1 (by rw [← h0]; exact hk) rfl (fun ls' hl' => kk ls' (ix_Lh.put (x := .ref x) h0 hc h2 rfl hl'))
    · cases h
  · rename_i k x r he
    rw [he] at hdg hlen
    have hn : ix_len o = 2 := by rcases hlen with h1 | h1 <;> first | exact h1.symm | cases h1
    rw [hn] at hdg kk
    split at h
    · rename_i hk
      cases h
      obtain ⟨h0, hc, lv, h1, h2⟩ := hL
      exact lv_astore hx hb hdg h1 (by rw [← h0]; exact hk) rfl (fun ls' hl' => kk ls' (ix_Lh.put (x := .ref x) h0 hc h2 rfl hl'))
    · cases h
  · rename_i x r he
    rw [he] at hdg hlen
    have hn : ix_len o = 1 := by rcases hlen with h1 | h1 <;> first | exact h1.symm | cases h1
    rw [hn] at hdg kk
    cases h
    exact lv_ineg hx hb hdg (kk lsA hL)
  · rename_i x r he
    rw [he] at hdg hlen
    have hn : ix_len o = 1 := by rcases hlen with h1 | h1 <;> first | exact h1.symm | cases h1
    rw [hn] at hdg kk
    cases h
    exact lv_i2b hx hb hdg rfl (kk lsA hL)
  · rename_i x r he
    rw [he] at hdg hlen
    have hn : ix_len o = 1 := by rcases hlen with h1 | h1 <;> first | exact h1.symm | cases h1
    rw [hn] at hdg kk
    cases h
    exact lv_i2c hx hb hdg rfl (kk lsA hL)
  · rename_i x r he
    rw [he] at hdg hlen
    have hn : ix_len o = 1 := by rcases hlen with h1 | h1 <;> first | exact h1.symm | cases h1
    rw [hn] at hdg kk
    cases h
    exact lv_i2l hx hb hdg rfl (kk lsA hL)
  · rename_i a r he
    rw [he] at hdg hlen
    have hn : ix_len o = 1 := by rcases hlen with h1 | h1 <;> first | exact h1.symm | cases h1
    rw [hn] at hdg kk
    split at h
    · rename_i hk
      cases h
      exact lv_dup hx hb hdg (by rw [ix_cv_cat]; exact hk) (kk lsA hL)
    · cases h
  · rename_i a r he
    rw [he] at hdg hlen
    have hn : ix_len o = 1 := by rcases hlen with h1 | h1 <;> first | exact h1.symm | cases h1
    rw [hn] at hdg kk
    split at h
    · rename_i hk
      cases h
      exact lv_pop hx hb hdg (by rw [ix_cv_cat]; exact hk) (kk lsA hL)
    · cases h
  · rename_i a b r he
    rw [he] at hdg hlen
    have hn : ix_len o = 1 := by rcases hlen with h1 | h1 <;> first | exact h1.symm | cases h1
    rw [hn] at hdg kk
    split at h
    · rename_i hk
      cases h
      exact lv_dup2_11 hx hb hdg (by rw [ix_cv_cat]; exact hk.1) (by rw [ix_cv_cat]; exact hk.2) (kk lsA hL)
    · cases h
  · rename_i y x r he
    rw [he] at hdg hlen
    have hn : ix_len o = 1 := by rcases hlen with h1 | h1 <;> first | exact h1.symm | cases h1
    rw [hn] at hdg kk
    cases h
    exact W.lcmp hx hb hdg (kk lsA hL)
  · cases h
theorem ix_l3a (hx : p.tables.exec = Jvm.exec) (hb : c.code = cc)
    (hdg : decode cc pc = .ok (ix_ins o, ix_len o)) (hlen : ix_lenof (ix_ins o) = ix_len o ∨ ix_lenof (ix_ins o) = 0) (hL : ix_Lh ad lsA nL ls) {q : List Value × List Value} (h : ix_g3a o ls st = some q)
    (kk : ∀ lsA' : Array Slot, ix_Lh ad lsA' nL q.1 → W p l e R s m args below meth c H locs cells slots Q (F0 m (pc + ix_len o) lsA' (q.2.map (ix_cv ad)))) :
    W p l e R s m args below meth c H locs cells slots Q (F0 m pc lsA (st.map (ix_cv ad))) := by
  unfold ix_g3a at h
  split at h
  · rename_i y x r
    rw [Option.map_eq_some_iff] at h
    obtain ⟨v, h, hq⟩ := h
    subst hq
    generalize hi : ix_ins o = ins at hdg hlen h
    unfold ix_bop at h
    split at h
    · have hn : ix_len o = 1 := by rcases hlen with h1 | h1 <;> first | exact h1.symm | cases h1
      rw [hn] at hdg kk
      cases h
      exact lv_iadd hx hb hdg (kk lsA hL)
    · have hn : ix_len o = 1 := by rcases hlen with h1 | h1 <;> first | exact h1.symm | cases h1
      rw [hn] at hdg kk
      cases h
      exact lv_isub hx hb hdg (kk lsA hL)
    · have hn : ix_len o = 1 := by rcases hlen with h1 | h1 <;> first | exact h1.symm | cases h1
      rw [hn] at hdg kk
      cases h
      exact lv_imul hx hb hdg (kk lsA hL)
    · have hn : ix_len o = 1 := by rcases hlen with h1 | h1 <;> first | exact h1.symm | cases h1
      rw [hn] at hdg kk
      cases h
      exact lv_iand hx hb hdg (kk lsA hL)
    · have hn : ix_len o = 1 := by rcases hlen with h1 | h1 <;> first | exact h1.symm | cases h1
      rw [hn] at hdg kk
      cases h
      exact lv_ior hx hb hdg (kk lsA hL)
    · have hn : ix_len o = 1 := by rcases hlen with h1 | h1 <;> first | exact h1.symm | cases h1
      rw [hn] at hdg kk
      cases h
      exact lv_ixor hx hb hdg (kk lsA hL)
    · have hn : ix_len o = 1 := by rcases hlen with h1 | h1 <;> first | exact h1.symm | cases h1
      rw [hn] at hdg kk
      cases h
      exact lv_ishl hx hb hdg (kk lsA hL)
    · have hn : ix_len o = 1 := by rcases hlen with h1 | h1 <;> first | exact h1.symm | cases h1
      rw [hn] at hdg kk
      cases h
      exact lv_ishr hx hb hdg (kk lsA hL)
    · have hn : ix_len o = 1 := by rcases hlen with h1 | h1 <;> first | exact h1.symm | cases h1
      rw [hn] at hdg kk
      cases h
      exact lv_iushr hx hb hdg rfl (kk lsA hL)
    · have hn : ix_len o = 1 := by rcases hlen with h1 | h1 <;> first | exact h1.symm | cases h1
      rw [hn] at hdg kk
      split at h
      · cases h
      · rename_i hz
        cases h
        exact lv_idiv hx hb hdg hz (kk lsA hL)
    · have hn : ix_len o = 1 := by rcases hlen with h1 | h1 <;> first | exact h1.symm | cases h1
      rw [hn] at hdg kk
      split at h
      · cases h
      · rename_i hz
        cases h
        exact lv_irem hx hb hdg hz (kk lsA hL)
    · cases h
  · cases h
theorem ix_l3 (hx : p.tables.exec = Jvm.exec) (hb : c.code = cc) (hml : c.maxLocals = lsA.size) (hown : s.vm.findClass (ix_cn own) = some m.cls) (hR : 12 ≤ R.frames ∧ 300 ≤ R.locals) (hcs : cells ≤ R.cells ∧ slots ≤ R.slots)
    (hmm : ∀ (i k : Nat), (own, i, k) ∈ ix_mmS → (Cond.methodLink (ix_cn own) i (ix_mn k)).before args s = true) (hmS : ∀ k, (Cond.static (ix_mn k)).before args s = true) (hmI : (Cond.initialized "java/lang/Math").before args s = true)
    (hm4 : (Cond.code Lib.Math.max.name Lib.Math.max.code 2 (some .int)).before args s = true) (hm5 : (Cond.code Lib.Math.min.name Lib.Math.min.code 2 (some .int)).before args s = true) (hm6 : (Cond.code Lib.Math.abs.name Lib.Math.abs.code 1 (some .int)).before args s = true)
    (hmk : ∀ e ∈ ix_mlk, 4 ≤ e.2.2.2.1 → e.2.2.2.1 ≤ 6 → (e.1, e.2.1, e.2.2.2.1) ∈ ix_mmS)
    (hdg : decode cc pc = .ok (ix_ins o, ix_len o)) (hlen : ix_lenof (ix_ins o) = ix_len o ∨ ix_lenof (ix_ins o) = 0) (hres : ix_res own cc ops o = true) (hL : ix_Lh ad lsA nL ls) {q : List Value × List Value} (h : ix_g3 o ls st = some q)
    (kk : ∀ lsA' : Array Slot, ix_Lh ad lsA' nL q.1 → W p l e R s m args below meth c H locs cells slots Q (F0 m (pc + ix_len o) lsA' (q.2.map (ix_cv ad)))) :
    W p l e R s m args below meth c H locs cells slots Q (F0 m pc lsA (st.map (ix_cv ad))) := by
  unfold ix_g3 at h
  split at h
  · rename_i q9 h9
    cases h
    exact ix_l3a hx hb hdg hlen hL h9 kk
  · unfold ix_g3b at h
    split at h
    · rename_i idx he
      unfold ix_res at hres
      rw [he] at hdg hlen hres
      have hn : ix_len o = 3 := by rcases hlen with h1 | h1 <;> first | exact h1.symm | cases h1
      rw [hn] at hdg kk
      dsimp only at hres
      simp only [Bool.and_eq_true, decide_eq_true_eq] at hres
      split at h
      · rename_i hsum
        have hcat : ∀ r : List Value, (List.map (fun v => Value.category v) (List.map (ix_cv ad) r)) = r.map (fun v => v.category) := fun r => by
          rw [List.map_map]
          exact List.map_congr_left (fun v _ => ix_cv_cat ad v)
        split at h
        · rename_i h4
          split at h
          · rename_i y x r
            cases h
            have hlk := hmm _ _ (hmk _ hres.2 (by show 4 ≤ ix_y o; omega) (by show ix_y o ≤ 6; omega))
            have hlk : (Cond.methodLink (ix_cn own) idx (ix_mn (ix_y o))).before args s = true := hlk
            rw [h4] at hlk
            simp only [List.map_cons, List.sum_cons] at hsum
            exact va_mmax hx hb hml hown hlk (hmS 4) hmI hm4 (by omega) (by rw [hcat]; omega) hcs.1 hcs.2 hdg (kk lsA hL)
          · cases h
        · split at h
          · rename_i h4
            split at h
            · rename_i y x r
              cases h
              have hlk := hmm _ _ (hmk _ hres.2 (by show 4 ≤ ix_y o; omega) (by show ix_y o ≤ 6; omega))
              have hlk : (Cond.methodLink (ix_cn own) idx (ix_mn (ix_y o))).before args s = true := hlk
              rw [h4] at hlk
              simp only [List.map_cons, List.sum_cons] at hsum
              exact va_mmin hx hb hml hown hlk (hmS 5) hmI hm5 (by omega) (by rw [hcat]; omega) hcs.1 hcs.2 hdg (kk lsA hL)
            · cases h
          · split at h
            · rename_i h4
              split at h
              · rename_i x r
                cases h
                have hlk := hmm _ _ (hmk _ hres.2 (by show 4 ≤ ix_y o; omega) (by show ix_y o ≤ 6; omega))
                have hlk : (Cond.methodLink (ix_cn own) idx (ix_mn (ix_y o))).before args s = true := hlk
                rw [h4] at hlk
                simp only [List.map_cons, List.sum_cons] at hsum
                exact va_mabs hx hb hml hown hlk (hmS 6) hmI hm6 (by omega) (by rw [hcat]; omega) hcs.1 hcs.2 hdg (kk lsA hL)
              · cases h
            · cases h
      · cases h
    · cases h
theorem ix_jmp_at {t : Nat} {off : Int} (h : ix_jmp ops pc t off = true) : ∃ o', ops[t]? = some o' ∧ (pc : Int) + off = (ix_pc o' : Int) := by
  unfold ix_jmp at h
  split at h
  · rename_i o' ho
    exact ⟨o', ho, of_decide_eq_true h⟩
  · cases h
theorem ix_lb (hx : p.tables.exec = Jvm.exec) (hb : c.code = cc)
    (hdg : decode cc pc = .ok (ix_ins o, ix_len o)) (hlen : ix_lenof (ix_ins o) = ix_len o ∨ ix_lenof (ix_ins o) = 0) (hpc : ix_pc o = pc) (hres : ix_res own cc ops o = true) {i : Nat} {q : Nat × List Value} (h : ix_gb o i st = some q)
    (kk : ∀ pc' : Nat, (q.1 = i + 1 ∧ pc' = pc + ix_len o) ∨ (∃ o', ops[q.1]? = some o' ∧ ix_pc o' = pc') → W p l e R s m args below meth c H locs cells slots Q (F0 m pc' lsA (q.2.map (ix_cv ad)))) :
    W p l e R s m args below meth c H locs cells slots Q (F0 m pc lsA (st.map (ix_cv ad))) := by
  unfold ix_gb at h
  unfold ix_res at hres
  split at h
  · rename_i off r he
    rw [he] at hdg hlen hres
    have hn : ix_len o = 3 := by rcases hlen with h1 | h1 <;> first | exact h1.symm | cases h1
    rw [hn] at hdg kk
    dsimp only at hres
    rw [hpc] at hres
    obtain ⟨o', h1, h2⟩ := ix_jmp_at hres
    cases h
    exact lv_goto hx hb hdg h2 (kk _ (Or.inr ⟨o', h1, rfl⟩))
  · rename_i cd off x r he
    rw [he] at hdg hlen hres
    have hn : ix_len o = 3 := by rcases hlen with h1 | h1 <;> first | exact h1.symm | cases h1
    rw [hn] at hdg kk
    dsimp only at hres
    rw [hpc] at hres
    obtain ⟨o', h1, h2⟩ := ix_jmp_at hres
    cases h
    cases cd
    · refine lv_if_eq hx hb hdg h2 (fun hc => ?_) (fun hc => ?_)
      · have e9 : ix_c1 .eq x = true := decide_eq_true hc
        rw [e9] at kk
        exact kk _ (Or.inr ⟨o', h1, rfl⟩)
      · have e9 : ix_c1 .eq x = false := decide_eq_false hc
        rw [e9] at kk
        exact kk _ (Or.inl ⟨rfl, rfl⟩)
    · refine lv_if_ne hx hb hdg h2 (fun hc => ?_) (fun hc => ?_)
      · have e9 : ix_c1 .ne x = true := decide_eq_true hc
        rw [e9] at kk
        exact kk _ (Or.inr ⟨o', h1, rfl⟩)
      · have e9 : ix_c1 .ne x = false := decide_eq_false (fun z => z hc)
        rw [e9] at kk
        exact kk _ (Or.inl ⟨rfl, rfl⟩)
    · refine lv_if_lt hx hb hdg h2 (fun hc => ?_) (fun hc => ?_)
      · have e9 : ix_c1 .lt x = true := decide_eq_true hc
        rw [e9] at kk
        exact kk _ (Or.inr ⟨o', h1, rfl⟩)
      · have e9 : ix_c1 .lt x = false := decide_eq_false hc
        rw [e9] at kk
        exact kk _ (Or.inl ⟨rfl, rfl⟩)
    · refine lv_if_ge hx hb hdg h2 (fun hc => ?_) (fun hc => ?_)
      · have e9 : ix_c1 .ge x = true := decide_eq_true hc
        rw [e9] at kk
        exact kk _ (Or.inr ⟨o', h1, rfl⟩)
      · have e9 : ix_c1 .ge x = false := decide_eq_false hc
        rw [e9] at kk
        exact kk _ (Or.inl ⟨rfl, rfl⟩)
    · refine lv_if_gt hx hb hdg h2 (fun hc => ?_) (fun hc => ?_)
      · have e9 : ix_c1 .gt x = true := decide_eq_true hc
        rw [e9] at kk
        exact kk _ (Or.inr ⟨o', h1, rfl⟩)
      · have e9 : ix_c1 .gt x = false := decide_eq_false hc
        rw [e9] at kk
        exact kk _ (Or.inl ⟨rfl, rfl⟩)
    · refine lv_if_le hx hb hdg h2 (fun hc => ?_) (fun hc => ?_)
      · have e9 : ix_c1 .le x = true := decide_eq_true hc
        rw [e9] at kk
        exact kk _ (Or.inr ⟨o', h1, rfl⟩)
      · have e9 : ix_c1 .le x = false := decide_eq_false hc
        rw [e9] at kk
        exact kk _ (Or.inl ⟨rfl, rfl⟩)
  · rename_i cd off y x r he
    rw [he] at hdg hlen hres
    have hn : ix_len o = 3 := by rcases hlen with h1 | h1 <;> first | exact h1.symm | cases h1
    rw [hn] at hdg kk
    dsimp only at hres
    rw [hpc] at hres
    obtain ⟨o', h1, h2⟩ := ix_jmp_at hres
    cases h
    cases cd
    · refine lv_icmp_eq hx hb hdg h2 (fun hc => ?_) (fun hc => ?_)
      · have e9 : ix_c2 .eq x y = true := decide_eq_true hc
        rw [e9] at kk
        exact kk _ (Or.inr ⟨o', h1, rfl⟩)
      · have e9 : ix_c2 .eq x y = false := decide_eq_false hc
        rw [e9] at kk
        exact kk _ (Or.inl ⟨rfl, rfl⟩)
    · refine lv_icmp_ne hx hb hdg h2 (fun hc => ?_) (fun hc => ?_)
      · have e9 : ix_c2 .ne x y = true := decide_eq_true hc
        rw [e9] at kk
        exact kk _ (Or.inr ⟨o', h1, rfl⟩)
      · have e9 : ix_c2 .ne x y = false := decide_eq_false (fun z => z hc)
        rw [e9] at kk
        exact kk _ (Or.inl ⟨rfl, rfl⟩)
    · refine lv_icmp_lt hx hb hdg h2 (fun hc => ?_) (fun hc => ?_)
      · have e9 : ix_c2 .lt x y = true := decide_eq_true hc
        rw [e9] at kk
        exact kk _ (Or.inr ⟨o', h1, rfl⟩)
      · have e9 : ix_c2 .lt x y = false := decide_eq_false hc
        rw [e9] at kk
        exact kk _ (Or.inl ⟨rfl, rfl⟩)
    · refine lv_icmp_ge hx hb hdg h2 (fun hc => ?_) (fun hc => ?_)
      · have e9 : ix_c2 .ge x y = true := decide_eq_true hc
        rw [e9] at kk
        exact kk _ (Or.inr ⟨o', h1, rfl⟩)
      · have e9 : ix_c2 .ge x y = false := decide_eq_false hc
        rw [e9] at kk
        exact kk _ (Or.inl ⟨rfl, rfl⟩)
    · refine lv_icmp_gt hx hb hdg h2 (fun hc => ?_) (fun hc => ?_)
      · have e9 : ix_c2 .gt x y = true := decide_eq_true hc
        rw [e9] at kk
        exact kk _ (Or.inr ⟨o', h1, rfl⟩)
      · have e9 : ix_c2 .gt x y = false := decide_eq_false hc
        rw [e9] at kk
        exact kk _ (Or.inl ⟨rfl, rfl⟩)
    · refine lv_icmp_le hx hb hdg h2 (fun hc => ?_) (fun hc => ?_)
      · have e9 : ix_c2 .le x y = true := decide_eq_true hc
        rw [e9] at kk
        exact kk _ (Or.inr ⟨o', h1, rfl⟩)
      · have e9 : ix_c2 .le x y = false := decide_eq_false hc
        rw [e9] at kk
        exact kk _ (Or.inl ⟨rfl, rfl⟩)
  · rename_i d lo hi offs x r he
    rw [he] at hdg hres
    dsimp only at hres
    rw [hpc] at hres
    simp only [Bool.and_eq_true, decide_eq_true_eq, List.all_eq_true, List.mem_range] at hres
    obtain ⟨⟨⟨r1, r2⟩, r3⟩, r4⟩ := hres
    split at h
    · rename_i hc
      cases h
      obtain ⟨o', h1, h2⟩ := ix_jmp_at r1
      exact lv_tableOut hx hb hdg hc h2 (kk _ (Or.inr ⟨o', h1, rfl⟩))
    · rename_i hc
      rw [Option.map_eq_some_iff] at h
      obtain ⟨t, ht, hq⟩ := h
      subst hq
      have hlt := (List.getElem?_eq_some_iff.mp ht).1
      obtain ⟨o', h1, h2⟩ := ix_jmp_at (r4 (x.toInt - lo).toNat (by omega))
      have e1 : (ix_tl o).getD (x.toInt - lo).toNat 0 = t := by rw [List.getD_eq_getElem?_getD, ht]; rfl
      have hs : (x.toInt - lo).toNat < offs.size := by omega
      have e2 : offs[(x.toInt - lo).toNat]? = some (offs.getD (x.toInt - lo).toNat 0) := by rw [Array.getD_eq_getD_getElem?, Array.getElem?_eq_getElem hs]; rfl
      rw [e1] at h1
      exact lv_tableIn hx hb hdg (fun z => hc (Or.inl z)) (fun z => hc (Or.inr z)) e2 h2 (kk _ (Or.inr ⟨o', h1, rfl⟩))
  · cases h
end IXB
end
section
abbrev ix_G : Type := ClassId × ClassId × ClassId × ClassId
def ix_tys (G : ix_G) : List (ClassId × FieldType) := [(G.1, .byte), (G.2.1, .int), (G.2.2.1, .array .int), (G.2.2.2, .long)]
def ix_fe (ad : Nat → Nat) (v : Int32) : Option Nat → Value
  | some t => .ref (ad t)
  | none => .int v
def ix_fv (ad : Nat → Nat) (h : ix_H) (a : Nat) : List Value := (ix_rf a).mapIdx (fun k r => ix_fe ad (h a k) r)
def ix_cell (G : ix_G) (ad : Nat → Nat) (h : ix_H) (a : Nat) : va_E :=
  if ix_k a = 1 then .inl (G.2.1, ix_n a, .inl (h a))
  else if ix_k a = 2 then .inl (G.1, ix_n a, .inl (h a))
  else if ix_k a = 3 then .inl (G.2.2.1, ix_n a, .inr (.inr (.inr (.inr (fun j => some (ad (ix_b a + j)))))))
  else if ix_k a = 4 then .inl (G.2.2.2, ix_n a, .inr (.inl (fun j => (h a j).toInt64)))
  else .inr (ix_n a, ix_fv ad h a)
def ix_ws (G : ix_G) (ad : Nat → Nat) (ids : List Nat) (h : ix_H) : va_W := ids.map (fun a => (ad a, ix_cell G ad h a))
def ix_Fx (ad : Nat → Nat) (ids : List Nat) (dm : Nat → Bool) (lo : Nat) : Prop := ids.Nodup ∧ (∀ a ∈ ids, ∀ b ∈ ids, ad a = ad b → a = b) ∧ (∀ a ∈ ids, lo ≤ ad a) ∧ ∀ a, dm a = true → 1 ≤ ix_k a → ix_k a ≤ 5 → a ∈ ids
theorem ix_ws_at {G : ix_G} {ad : Nat → Nat} {ids : List Nat} {h : ix_H} {k a : Nat} (hk : ids[k]? = some a) : (ix_ws G ad ids h)[k]? = some (ad a, ix_cell G ad h a) := by
  unfold ix_ws
  rw [List.getElem?_map, hk]
  rfl
theorem ix_ws_get {G : ix_G} {ad : Nat → Nat} {ids : List Nat} {h : ix_H} {k : Nat} {q : Nat × va_E} (hk : (ix_ws G ad ids h)[k]? = some q) : ∃ a, ids[k]? = some a ∧ q = (ad a, ix_cell G ad h a) := by
  unfold ix_ws at hk
  rw [List.getElem?_map] at hk
  cases hi : ids[k]? with
  | none => rw [hi] at hk; cases hk
  | some a => rw [hi] at hk; exact ⟨a, rfl, (Option.some.inj hk).symm⟩
theorem ix_nd {ids : List Nat} (hn : ids.Nodup) {i j a : Nat} (hi : ids[i]? = some a) (hj : ids[j]? = some a) : i = j := by
  obtain ⟨h1, e1⟩ := List.getElem?_eq_some_iff.mp hi
  obtain ⟨h2, e2⟩ := List.getElem?_eq_some_iff.mp hj
  have hp := List.pairwise_iff_getElem.mp hn
  rcases Nat.lt_trichotomy i j with q | q | q
  · exact absurd (e1.trans e2.symm) (hp i j h1 h2 q)
  · exact q
  · exact absurd (e2.trans e1.symm) (hp j i h2 h1 q)
theorem ix_va_D {G : ix_G} {ad : Nat → Nat} {ids : List Nat} {dm : Nat → Bool} {lo : Nat} (hF : ix_Fx ad ids dm lo) (h : ix_H) : va_D (fun q => lo ≤ q) (ix_ws G ad ids h) := by
  obtain ⟨hn, hi, hlo, -⟩ := hF
  refine ⟨fun i j x y hx hy hxy => ?_, fun k q hk => ?_⟩
  · obtain ⟨a, h1, rfl⟩ := ix_ws_get hx
    obtain ⟨b, h2, rfl⟩ := ix_ws_get hy
    have e := hi a (List.mem_of_getElem? h1) b (List.mem_of_getElem? h2) hxy
    subst e
    exact ix_nd hn h1 h2
  · obtain ⟨a, h1, rfl⟩ := ix_ws_get hk
    exact hlo a (List.mem_of_getElem? h1)
theorem ix_ws_set {G : ix_G} {ad : Nat → Nat} {ids : List Nat} {h h' : ix_H} {k a : Nat} {x : va_E} (hn : ids.Nodup) (hk : ids[k]? = some a) (he : ix_cell G ad h' a = x) (ho : ∀ b, b ≠ a → ix_cell G ad h' b = ix_cell G ad h b) : (ix_ws G ad ids h).set k (ad a, x) = ix_ws G ad ids h' := by
  refine List.ext_getElem? fun j => ?_
  unfold ix_ws
  rw [List.getElem?_set, List.getElem?_map, List.getElem?_map]
  by_cases hj : k = j
  · subst hj
    have hl : k < (List.map (fun a => (ad a, ix_cell G ad h a)) ids).length := by rw [List.length_map]; exact (List.getElem?_eq_some_iff.mp hk).1
    rw [if_pos rfl, if_pos hl, hk, ← he]
    rfl
  · rw [if_neg hj]
    cases hb : ids[j]? with
    | none => rfl
    | some b =>
      have hne : b ≠ a := fun e => hj (ix_nd hn hk (e ▸ hb))
      show some (ad b, ix_cell G ad h b) = some (ad b, ix_cell G ad h' b)
      rw [ho b hne]
theorem ix_up_ne {h : ix_H} {a k : Nat} {v : Int32} {b : Nat} (hb : b ≠ a) : ix_up h a k v b = h b := by
  funext j
  unfold ix_up
  rw [if_neg hb]
theorem ix_up_eq {h : ix_H} {a k : Nat} {v : Int32} : ix_up h a k v a = upd (h a) k v := by
  funext j
  unfold ix_up upd
  rw [if_pos rfl]
theorem ix_cell_of {G : ix_G} {ad : Nat → Nat} {h h' : ix_H} {b : Nat} (e : h' b = h b) : ix_cell G ad h' b = ix_cell G ad h b := by
  unfold ix_cell ix_fv
  rw [e]
theorem ix_cell1 {G : ix_G} {ad : Nat → Nat} {h : ix_H} {a : Nat} (hk : ix_k a = 1) : ix_cell G ad h a = .inl (G.2.1, ix_n a, .inl (h a)) := by unfold ix_cell; rw [if_pos hk]
theorem ix_cell2 {G : ix_G} {ad : Nat → Nat} {h : ix_H} {a : Nat} (hk : ix_k a = 2) : ix_cell G ad h a = .inl (G.1, ix_n a, .inl (h a)) := by unfold ix_cell; rw [if_neg (by omega), if_pos hk]
theorem ix_cell3 {G : ix_G} {ad : Nat → Nat} {h : ix_H} {a : Nat} (hk : ix_k a = 3) : ix_cell G ad h a = .inl (G.2.2.1, ix_n a, .inr (.inr (.inr (.inr (fun j => some (ad (ix_b a + j))))))) := by unfold ix_cell; rw [if_neg (by omega), if_neg (by omega), if_pos hk]
theorem ix_cell4 {G : ix_G} {ad : Nat → Nat} {h : ix_H} {a : Nat} (hk : ix_k a = 4) : ix_cell G ad h a = .inl (G.2.2.2, ix_n a, .inr (.inl (fun j => (h a j).toInt64))) := by unfold ix_cell; rw [if_neg (by omega), if_neg (by omega), if_neg (by omega), if_pos hk]
theorem ix_cell5 {G : ix_G} {ad : Nat → Nat} {h : ix_H} {a : Nat} (hk : ix_k a = 5) : ix_cell G ad h a = .inr (ix_n a, ix_fv ad h a) := by unfold ix_cell; rw [if_neg (by omega), if_neg (by omega), if_neg (by omega), if_neg (by omega)]
theorem ix_fv_at {ad : Nat → Nat} {h : ix_H} {a k : Nat} {r : Option Nat} (hk : (ix_rf a)[k]? = some r) : (ix_fv ad h a)[k]? = some (ix_fe ad (h a k) r) := by
  unfold ix_fv
  rw [List.getElem?_mapIdx, hk]
  rfl
theorem ix_fv_set {ad : Nat → Nat} {h : ix_H} {a k : Nat} {v : Int32} (hk : (ix_rf a)[k]? = some none) : (ix_fv ad h a).set k (.int v) = ix_fv ad (ix_up h a k v) a := by
  refine List.ext_getElem? fun j => ?_
  have hl : k < (ix_fv ad h a).length := by unfold ix_fv; rw [List.length_mapIdx]; exact (List.getElem?_eq_some_iff.mp hk).1
  rw [List.getElem?_set]
  by_cases hj : k = j
  · subst hj
    rw [if_pos rfl, if_pos hl, ix_fv_at hk, ix_up_eq]
    show some (Value.int v) = some (Value.int (upd (h a) k v k))
    rw [pk_us]
  · rw [if_neg hj]
    cases hr : (ix_rf a)[j]? with
    | none =>
      unfold ix_fv
      rw [List.getElem?_mapIdx, List.getElem?_mapIdx, hr]
      rfl
    | some r =>
      rw [ix_fv_at hr, ix_fv_at hr, ix_up_eq]
      cases r with
      | some t => rfl
      | none =>
        show some (Value.int (h a j)) = some (Value.int (upd (h a) k v j))
        rw [pk_un (fun e => hj e.symm)]
end
section
def ix_gw : List Cond := lw_tbl.filter goodWord
theorem ix_gwm {w : Cond} (h : w ∈ lw_tbl) (hg : goodWord w = true) : w ∈ ix_gw := List.mem_filter.mpr ⟨h, hg⟩
theorem ix_layE {ci N : Nat} {C : String} {T : u_T} (hs : ix_sub ((ix_layS ci).map (u_lay C T)) tables_1 = true) (hc : ∀ k, k < N → k ∈ ix_layS ci) : ∀ w ∈ u_ws C T N, w ∈ ix_gw := by
  intro w hw
  obtain ⟨k, hk, rfl⟩ := List.mem_map.mp hw
  refine ix_gwm (ix_tbl (ix_sub_ok _ _ hs _ (List.mem_map.mpr ⟨k, hc k (List.mem_range.mp hk), rfl⟩))) ?_
  unfold u_lay
  split <;> rfl
def ix_Cok (C : String) (T : u_T) (N : Nat) : Prop := (∀ w ∈ u_ws C T N, w ∈ ix_gw) ∧ (∃ ty0 : Nat → FieldType, ∀ k, k < N → parseFieldDescriptor (T k).2.2.1 = some (ty0 k)) ∧ ∀ a, a < N → ∀ b, b < N → a ≠ b → (T a).2.1 ≠ (T b).2.1
theorem ix_co0 : ix_Cok RX0 TX0 5 := ⟨ix_layE ix_la0 (by decide), ⟨_, tyX0_ok⟩, nmX0⟩
theorem ix_co1 : ix_Cok RX1 TX1 10 := ⟨ix_layE ix_la1 (by decide), ⟨_, tyX1_ok⟩, nmX1⟩
theorem ix_co2 : ix_Cok RX2 TX2 3 := ⟨ix_layE ix_la2 (by decide), ⟨_, tyX2_ok⟩, nmX2⟩
theorem ix_co3 : ix_Cok RX3 TX3 6 := ⟨ix_layE ix_la3 (by decide), ⟨_, tyX3_ok⟩, nmX3⟩
theorem ix_co4 : ix_Cok RX4 TX4 10 := ⟨ix_layE ix_la4 (by decide), ⟨_, tyX4_ok⟩, nmX4⟩
theorem ix_co5 : ix_Cok RX5 TX5 5 := ⟨ix_layE ix_la5 (by decide), ⟨_, tyX5_ok⟩, nmX5⟩
theorem ix_co6 : ix_Cok RX6 TX6 8 := ⟨ix_layE ix_la6 (by decide), ⟨_, tyX6_ok⟩, nmX6⟩
theorem ix_co7 : ix_Cok RX7 TX7 7 := ⟨ix_layE ix_la7 (by decide), ⟨_, tyX7_ok⟩, nmX7⟩
theorem ix_co8 : ix_Cok RX8 TX8 3 := ⟨ix_layE ix_la8 (by decide), ⟨_, tyX8_ok⟩, nmX8⟩
theorem ix_co9 : ix_Cok RX9 TX9 7 := ⟨ix_layE ix_la9 (by decide), ⟨_, tyX9_ok⟩, nmX9⟩
theorem ix_co10 : ix_Cok RX10 TX10 7 := ⟨ix_layE ix_la10 (by decide), ⟨_, tyX10_ok⟩, nmX10⟩
theorem ix_co11 : ix_Cok RX11 TX11 20 := ⟨ix_layE ix_la11 (by decide), ⟨_, tyX11_ok⟩, nmX11⟩
theorem ix_co12 : ix_Cok RX12 TX12 50 := ⟨ix_layE ix_la12 (by decide +kernel), ⟨_, tyX12_ok⟩, nmX12⟩
theorem ix_cok {ci N : Nat} {C : String} {T : u_T} (h : vwCl[ci]? = some (C, T, N)) : ix_Cok C T N := by
  match ci, h with
  | 0, h => cases h; exact ix_co0
  | 1, h => cases h; exact ix_co1
  | 2, h => cases h; exact ix_co2
  | 3, h => cases h; exact ix_co3
  | 4, h => cases h; exact ix_co4
  | 5, h => cases h; exact ix_co5
  | 6, h => cases h; exact ix_co6
  | 7, h => cases h; exact ix_co7
  | 8, h => cases h; exact ix_co8
  | 9, h => cases h; exact ix_co9
  | 10, h => cases h; exact ix_co10
  | 11, h => cases h; exact ix_co11
  | 12, h => cases h; exact ix_co12
  | k + 13, h => simp [vwCl] at h
def ix_objb (a : Nat) : Bool := decide (ix_k a ≠ 5) || (match vwCl[ix_n a]? with
  | some q => decide ((ix_rf a).length = q.2.2) && (List.range q.2.2).all (fun k => decide ((ix_rf a)[k]? ≠ some none) || (decide ((q.2.1 k).2.2.1 = "I") && decide ((q.2.1 k).2.2.2 = false)))
  | none => false)
theorem ix_ob0 : ∀ a, a < 300 → ix_objb (a + 0) = true := by decide +kernel
theorem ix_ob1 : ∀ a, a < 300 → ix_objb (a + 300) = true := by decide +kernel
theorem ix_ob2 : ∀ a, a < 300 → ix_objb (a + 600) = true := by decide +kernel
theorem ix_ob3 : ∀ a, a < 300 → ix_objb (a + 900) = true := by decide +kernel
theorem ix_ob4 : ∀ a, a < 300 → ix_objb (a + 1200) = true := by decide +kernel
theorem ix_ob5 : ∀ a, a < 300 → ix_objb (a + 1500) = true := by decide +kernel
theorem ix_ob6 : ∀ a, a < 300 → ix_objb (a + 1800) = true := by decide +kernel
theorem ix_ob7 : ∀ a, a < 300 → ix_objb (a + 2100) = true := by decide +kernel
theorem ix_ob8 : ∀ a, a < 300 → ix_objb (a + 2400) = true := by decide +kernel
theorem ix_ob9 : ∀ a, a < 300 → ix_objb (a + 2700) = true := by decide +kernel
theorem ix_ob10 : ∀ a, a < 300 → ix_objb (a + 3000) = true := by decide +kernel
theorem ix_objb_ok (a : Nat) (h : a < 3001) : ix_objb a = true := by
  by_cases h0 : a < 300
  · have e := ix_ob0 (a - 0) (by omega)
    rw [show a - 0 + 0 = a by omega] at e
    exact e
  by_cases h1 : a < 600
  · have e := ix_ob1 (a - 300) (by omega)
    rw [show a - 300 + 300 = a by omega] at e
    exact e
  by_cases h2 : a < 900
  · have e := ix_ob2 (a - 600) (by omega)
    rw [show a - 600 + 600 = a by omega] at e
    exact e
  by_cases h3 : a < 1200
  · have e := ix_ob3 (a - 900) (by omega)
    rw [show a - 900 + 900 = a by omega] at e
    exact e
  by_cases h4 : a < 1500
  · have e := ix_ob4 (a - 1200) (by omega)
    rw [show a - 1200 + 1200 = a by omega] at e
    exact e
  by_cases h5 : a < 1800
  · have e := ix_ob5 (a - 1500) (by omega)
    rw [show a - 1500 + 1500 = a by omega] at e
    exact e
  by_cases h6 : a < 2100
  · have e := ix_ob6 (a - 1800) (by omega)
    rw [show a - 1800 + 1800 = a by omega] at e
    exact e
  by_cases h7 : a < 2400
  · have e := ix_ob7 (a - 2100) (by omega)
    rw [show a - 2100 + 2100 = a by omega] at e
    exact e
  by_cases h8 : a < 2700
  · have e := ix_ob8 (a - 2400) (by omega)
    rw [show a - 2400 + 2400 = a by omega] at e
    exact e
  by_cases h9 : a < 3000
  · have e := ix_ob9 (a - 2700) (by omega)
    rw [show a - 2700 + 2700 = a by omega] at e
    exact e
  by_cases h10 : a < 3300
  · have e := ix_ob10 (a - 3000) (by omega)
    rw [show a - 3000 + 3000 = a by omega] at e
    exact e
  omega
theorem ix_obj {a : Nat} (h5 : ix_k a = 5) : ∃ (C : String) (T : u_T) (N : Nat), vwCl[ix_n a]? = some (C, T, N) ∧ (ix_rf a).length = N ∧ ∀ k, (ix_rf a)[k]? = some none → (T k).2.2.1 = "I" ∧ (T k).2.2.2 = false := by
  have ha : a < 3001 := by
    rcases Nat.lt_or_ge a 3001 with q | q
    · exact q
    · have : ix_k a = 0 := by unfold ix_k ix_sh; rw [if_pos q]
      omega
  have h := ix_objb_ok a ha
  unfold ix_objb at h
  simp only [h5, ne_eq, not_true_eq_false, decide_false, Bool.false_or] at h
  split at h
  · rename_i q hq
    simp only [Bool.and_eq_true, decide_eq_true_eq, List.all_eq_true, List.mem_range, Bool.or_eq_true] at h
    obtain ⟨C, T, N⟩ := q
    refine ⟨C, T, N, hq, h.1, fun k hk => ?_⟩
    have hkN : k < N := by
      have h1 : (ix_rf a).length = N := h.1
      rw [← h1]; exact (List.getElem?_eq_some_iff.mp hk).1
    rcases h.2 k hkN with g | g
    · exact absurd hk g
    · exact g
  · cases h
theorem ix_flkS : ∀ e ∈ ix_flk, e ∈ ix_flS := by decide +kernel
section IXH
variable {p : Program} {l : Launch} {e : Env} {R : Room} {s : State} {m : MethodId} {args : Array Value} {below : List Frame} {meth : Method} {c : Code} {H : Heap} {locs : List Loc} {cells slots : Nat} {Q : State → Prop}
variable {cc : ByteArray} {pc nL : Nat} {lsA : Array Slot} {st : List Value} {ad : Nat → Nat} {o : ix_Op} {own : Nat} {ops : List ix_Op} {D : va_G} {G : ix_G} {ids : List Nat} {dm : Nat → Bool} {lo : Nat} {h : ix_H}
theorem ix_lget {a r : Nat} {rs : List Value} {f : Option Nat} {idx : Nat} (hx : p.tables.exec = Jvm.exec) (hb : c.code = cc) (hts : ∀ w ∈ ix_gw, w.before args s = true) (hnw : ∀ e ∈ ix_flS, e.2.2.2.2 ≠ 0 → va_Nw (ix_fw e) s) (hown : s.vm.findClass (ix_cn own) = some m.cls) (hK : va_K D vwCl (ix_tys G) s)
    (hP : va_P D vwCl (ix_ws G ad ids h) H) (ha : a ∈ ids) (h5 : ix_k a = 5) (hc : ix_n a = ix_x o) (hf : (ix_rf a)[ix_y o]? = some f) (hin : (own, idx, ix_x o, ix_y o, ix_z o) ∈ ix_flk) (hdg : decode cc pc = .ok (.getfield idx, 3))
    (kk : W p l e R s m args below meth c H locs cells slots Q (F0 m (pc + 3) lsA (ix_fe ad (h a (ix_y o)) f :: rs))) :
    W p l e R s m args below meth c H locs cells slots Q (F0 m pc lsA (.ref (ad a) :: rs)) := by
  obtain ⟨k, hk⟩ := List.getElem?_of_mem ha
  have hw := ix_ws_at (G := G) (ad := ad) (h := h) hk
  rw [ix_cell5 h5] at hw
  obtain ⟨C, T, N, hq, hN, -⟩ := ix_obj h5
  have hco := ix_cok hq
  have hy : ix_y o < N := by rw [← hN]; exact (List.getElem?_eq_some_iff.mp hf).1
  have hT : ix_T (ix_x o) = T := by
    unfold ix_T
    rw [List.getD_eq_getElem?_getD, ← hc, hq]
    rfl
  have hfl := ix_flkS _ hin
  have hmem : ix_fw (own, idx, ix_x o, ix_y o, ix_z o) ∈ lw_tbl := ix_tbl (ix_sub_ok _ _ ix_s1 _ (List.mem_map.mpr ⟨_, hfl, rfl⟩))
  by_cases hz : ix_z o = 0
  · have hwd : (Cond.fieldLink (ix_cn own) idx (T (ix_y o)).1 (T (ix_y o)).2.1 (T (ix_y o)).2.2.1).before args s = true := by
      have e1 : ix_fw (own, idx, ix_x o, ix_y o, ix_z o) = Cond.fieldLink (ix_cn own) idx (T (ix_y o)).1 (T (ix_y o)).2.1 (T (ix_y o)).2.2.1 := by
        unfold ix_fw
        dsimp only
        rw [if_pos hz, hT]
      rw [← e1]
      refine hts _ (ix_gwm hmem ?_)
      rw [e1]
      rfl
    exact va_get (D := D) (ref := (T (ix_y o)).1) hx hb hts hco.1 hown hK hP k hw hq (ix_y o) hy hwd (fun _ h9 => h9) (ix_fv_at hf) hdg kk
  · have hwd : (Cond.fieldLinkNest (ix_cn own) idx (T (ix_y o)).1 (T (ix_y o)).2.1 (T (ix_y o)).2.2.1 "CryGorge").before args s = true := by
      have e1 : ix_fw (own, idx, ix_x o, ix_y o, ix_z o) = Cond.fieldLinkNest (ix_cn own) idx (T (ix_y o)).1 (T (ix_y o)).2.1 (T (ix_y o)).2.2.1 "CryGorge" := by
        unfold ix_fw
        dsimp only
        rw [if_neg hz, hT]
      have h9 := hnw _ hfl hz
      rw [e1] at h9
      exact va_Nw.use rfl h9
    exact va_getN (D := D) (ref := (T (ix_y o)).1) hx hb hts hco.1 hown hK hP k hw hq (ix_y o) hy hwd (fun _ h9 => h9) (ix_fv_at hf) hdg kk
theorem ix_lput {a : Nat} {v : Int32} {rs : List Value} {idx : Nat} (hx : p.tables.exec = Jvm.exec) (hb : c.code = cc) (hts : ∀ w ∈ ix_gw, w.before args s = true) (hnw : ∀ e ∈ ix_flS, e.2.2.2.2 ≠ 0 → va_Nw (ix_fw e) s) (hown : s.vm.findClass (ix_cn own) = some m.cls) (hK : va_K D vwCl (ix_tys G) s)
    (hF : ix_Fx ad ids dm lo) (hP : va_P D vwCl (ix_ws G ad ids h) H) (hS : va_S (fun q => lo ≤ q) s.heap H locs) (ha : a ∈ ids) (h5 : ix_k a = 5) (hc : ix_n a = ix_x o) (hf : (ix_rf a)[ix_y o]? = some none) (hin : (own, idx, ix_x o, ix_y o, ix_z o) ∈ ix_flk) (hdg : decode cc pc = .ok (.putfield idx, 3))
    (kk : ∀ (H1 : Heap) (locs1 : List Loc), va_P D vwCl (ix_ws G ad ids (ix_up h a (ix_y o) v)) H1 → va_S (fun q => lo ≤ q) s.heap H1 locs1 → W p l e R s m args below meth c H1 locs1 cells slots Q (F0 m (pc + 3) lsA rs)) :
    W p l e R s m args below meth c H locs cells slots Q (F0 m pc lsA (.int v :: .ref (ad a) :: rs)) := by
  obtain ⟨k, hk⟩ := List.getElem?_of_mem ha
  have hw := ix_ws_at (G := G) (ad := ad) (h := h) hk
  rw [ix_cell5 h5] at hw
  obtain ⟨C, T, N, hq, hN, hI⟩ := ix_obj h5
  obtain ⟨hI1, hI2⟩ := hI _ hf
  obtain ⟨hco1, ⟨ty0, hty⟩, hnm⟩ := ix_cok hq
  have hy : ix_y o < N := by rw [← hN]; exact (List.getElem?_eq_some_iff.mp hf).1
  have hT : ix_T (ix_x o) = T := by
    unfold ix_T
    rw [List.getD_eq_getElem?_getD, ← hc, hq]
    rfl
  have hfl := ix_flkS _ hin
  have hmem : ix_fw (own, idx, ix_x o, ix_y o, ix_z o) ∈ lw_tbl := ix_tbl (ix_sub_ok _ _ ix_s1 _ (List.mem_map.mpr ⟨_, hfl, rfl⟩))
  have hlen : ix_y o < (ix_fv ad h a).length := by unfold ix_fv; rw [List.length_mapIdx]; exact (List.getElem?_eq_some_iff.mp hf).1
  have hset : (ix_ws G ad ids h).set k (ad a, .inr (ix_n a, (ix_fv ad h a).set (ix_y o) (.int v))) = ix_ws G ad ids (ix_up h a (ix_y o) v) := by
    refine ix_ws_set hF.1 hk ?_ (fun b hb => ix_cell_of (ix_up_ne hb))
    rw [ix_cell5 h5, ix_fv_set hf]
  have hd : parseFieldDescriptor (T (ix_y o)).2.2.1 = some .int := by rw [hI1]; decide +kernel
  have kk' : ∀ (H1 : Heap) (locs1 : List Loc), va_P D vwCl ((ix_ws G ad ids h).set k (ad a, .inr (ix_n a, (ix_fv ad h a).set (ix_y o) (.int v)))) H1 → va_D (fun q => lo ≤ q) ((ix_ws G ad ids h).set k (ad a, .inr (ix_n a, (ix_fv ad h a).set (ix_y o) (.int v)))) → va_S (fun q => lo ≤ q) s.heap H1 locs1 → W p l e R s m args below meth c H1 locs1 cells slots Q (F0 m (pc + 3) lsA rs) := by
    intro H1 locs1 q1 _ q3
    rw [hset] at q1
    exact kk H1 locs1 q1 q3
  by_cases hz : ix_z o = 0
  · have hwd : (Cond.fieldLink (ix_cn own) idx (T (ix_y o)).1 (T (ix_y o)).2.1 (T (ix_y o)).2.2.1).before args s = true := by
      have e1 : ix_fw (own, idx, ix_x o, ix_y o, ix_z o) = Cond.fieldLink (ix_cn own) idx (T (ix_y o)).1 (T (ix_y o)).2.1 (T (ix_y o)).2.2.1 := by
        unfold ix_fw
        dsimp only
        rw [if_pos hz, hT]
      rw [← e1]
      refine hts _ (ix_gwm hmem ?_)
      rw [e1]
      rfl
    exact va_put (D := D) (ref := (T (ix_y o)).1) hx hb hts hco1 ty0 hty hnm hown hK hP (ix_va_D hF h) hS k hw hq (ix_y o) hy hwd (fun _ h9 => h9) hI2 (ty := .int) hd rfl rfl hlen hdg kk'
  · have hwd : (Cond.fieldLinkNest (ix_cn own) idx (T (ix_y o)).1 (T (ix_y o)).2.1 (T (ix_y o)).2.2.1 "CryGorge").before args s = true := by
      have e1 : ix_fw (own, idx, ix_x o, ix_y o, ix_z o) = Cond.fieldLinkNest (ix_cn own) idx (T (ix_y o)).1 (T (ix_y o)).2.1 (T (ix_y o)).2.2.1 "CryGorge" := by
        unfold ix_fw
        dsimp only
        rw [if_neg hz, hT]
      have h9 := hnw _ hfl hz
      rw [e1] at h9
      exact va_Nw.use rfl h9
    exact va_putN (D := D) (ref := (T (ix_y o)).1) hx hb hts hco1 ty0 hty hnm hown hK hP (ix_va_D hF h) hS k hw hq (ix_y o) hy hwd (fun _ h9 => h9) hI2 (ty := .int) hd rfl rfl hlen hdg kk'
end IXH
end
section
theorem ix_ac7 : ∀ e ∈ ix_mlk, e.2.2.2.1 = 7 → e.2.2.1 = 0 ∧ e.2.2.2.2 = 5 := by decide +kernel
theorem ix_k3000 : ix_k 3000 = 7 := by decide
theorem ix_k3001 : ix_k 3001 = 0 := by decide
def ix_SX (ad : Nat → Nat) (lo : Nat) (h : ix_H) (U : State) (H : Heap) : Prop := va_X (ad 3000) (h 3001 0).toNatClampNeg (h 3000) U H ∧ Int32.ofNat (h 3001 0).toNatClampNeg = h 3001 0 ∧ ad 3000 < lo
theorem ix_kn0 : ∀ a, a < 300 → ix_k (a + 0) ≠ 7 := by decide +kernel
theorem ix_kn1 : ∀ a, a < 300 → ix_k (a + 300) ≠ 7 := by decide +kernel
theorem ix_kn2 : ∀ a, a < 300 → ix_k (a + 600) ≠ 7 := by decide +kernel
theorem ix_kn3 : ∀ a, a < 300 → ix_k (a + 900) ≠ 7 := by decide +kernel
theorem ix_kn4 : ∀ a, a < 300 → ix_k (a + 1200) ≠ 7 := by decide +kernel
theorem ix_kn5 : ∀ a, a < 300 → ix_k (a + 1500) ≠ 7 := by decide +kernel
theorem ix_kn6 : ∀ a, a < 300 → ix_k (a + 1800) ≠ 7 := by decide +kernel
theorem ix_kn7 : ∀ a, a < 300 → ix_k (a + 2100) ≠ 7 := by decide +kernel
theorem ix_kn8 : ∀ a, a < 300 → ix_k (a + 2400) ≠ 7 := by decide +kernel
theorem ix_kn9 : ∀ a, a < 300 → ix_k (a + 2700) ≠ 7 := by decide +kernel
theorem ix_k7 {a : Nat} (h7 : ix_k a = 7) : a = 3000 := by
  have ha : a < 3001 := by
    rcases Nat.lt_or_ge a 3001 with q | q
    · exact q
    · have : ix_k a = 0 := by unfold ix_k ix_sh; rw [if_pos q]
      omega
  by_cases g0 : a < 300
  · have e := ix_kn0 (a - 0) (by omega)
    rw [show a - 0 + 0 = a by omega] at e
    exact absurd h7 e
  by_cases g1 : a < 600
  · have e := ix_kn1 (a - 300) (by omega)
    rw [show a - 300 + 300 = a by omega] at e
    exact absurd h7 e
  by_cases g2 : a < 900
  · have e := ix_kn2 (a - 600) (by omega)
    rw [show a - 600 + 600 = a by omega] at e
    exact absurd h7 e
  by_cases g3 : a < 1200
  · have e := ix_kn3 (a - 900) (by omega)
    rw [show a - 900 + 900 = a by omega] at e
    exact absurd h7 e
  by_cases g4 : a < 1500
  · have e := ix_kn4 (a - 1200) (by omega)
    rw [show a - 1200 + 1200 = a by omega] at e
    exact absurd h7 e
  by_cases g5 : a < 1800
  · have e := ix_kn5 (a - 1500) (by omega)
    rw [show a - 1500 + 1500 = a by omega] at e
    exact absurd h7 e
  by_cases g6 : a < 2100
  · have e := ix_kn6 (a - 1800) (by omega)
    rw [show a - 1800 + 1800 = a by omega] at e
    exact absurd h7 e
  by_cases g7 : a < 2400
  · have e := ix_kn7 (a - 2100) (by omega)
    rw [show a - 2100 + 2100 = a by omega] at e
    exact absurd h7 e
  by_cases g8 : a < 2700
  · have e := ix_kn8 (a - 2400) (by omega)
    rw [show a - 2400 + 2400 = a by omega] at e
    exact absurd h7 e
  by_cases g9 : a < 3000
  · have e := ix_kn9 (a - 2700) (by omega)
    rw [show a - 2700 + 2700 = a by omega] at e
    exact absurd h7 e
  omega
section IXH2
variable {p : Program} {l : Launch} {e : Env} {R : Room} {s : State} {m : MethodId} {args : Array Value} {below : List Frame} {meth : Method} {c : Code} {H : Heap} {locs : List Loc} {cells slots : Nat} {Q : State → Prop}
variable {cc : ByteArray} {pc nL : Nat} {lsA : Array Slot} {st : List Value} {ad : Nat → Nat} {o : ix_Op} {own : Nat} {ops : List ix_Op} {D : va_G} {G : ix_G} {ids : List Nat} {dm : Nat → Bool} {lo : Nat} {h : ix_H}
theorem ix_lh (hx : p.tables.exec = Jvm.exec) (hb : c.code = cc) (hml : c.maxLocals = lsA.size) (hts : ∀ w ∈ ix_gw, w.before args s = true) (hnw : ∀ e ∈ ix_flS, e.2.2.2.2 ≠ 0 → va_Nw (ix_fw e) s) (hown : s.vm.findClass (ix_cn own) = some m.cls) (hK : va_K D vwCl (ix_tys G) s)
    (hac : ∀ i, (own, i, 0, 7, 5) ∈ ix_mlk → (Cond.methodLink (ix_cn own) i arraycopyName).before args s = true ∧ (Cond.native arraycopyName).before args s = true ∧ (Cond.static arraycopyName).before args s = true ∧ (Cond.initialized "java/lang/System").before args s = true)
    (hR : 12 ≤ R.frames ∧ 300 ≤ R.locals) (hF : ix_Fx ad ids dm lo) (hP : va_P D vwCl (ix_ws G ad ids h) H) (hS : va_S (fun q => lo ≤ q) s.heap H locs) (hlo : lo ≤ s.heap.size) (hX : ix_SX ad lo h s s.heap)
    (hdg : decode cc pc = .ok (ix_ins o, ix_len o)) (hlen : ix_lenof (ix_ins o) = ix_len o ∨ ix_lenof (ix_ins o) = 0) (hres : ix_res own cc ops o = true) {q : List Value × ix_H} (hg : ix_gh dm o st h = some q)
    (kk : ∀ (H1 : Heap) (locs1 : List Loc), va_P D vwCl (ix_ws G ad ids q.2) H1 → va_S (fun q => lo ≤ q) s.heap H1 locs1 → (q.2 3000 = h 3000 ∧ q.2 3001 = h 3001) → W p l e R s m args below meth c H1 locs1 cells slots Q (F0 m (pc + ix_len o) lsA (q.1.map (ix_cv ad)))) :
    W p l e R s m args below meth c H locs cells slots Q (F0 m pc lsA (st.map (ix_cv ad))) := by
  obtain ⟨hF1, hF2, hF3, hF4⟩ := id hF
  have hup : ∀ (a k : Nat) (v : Int32), ix_k a ≠ 7 → ix_k a ≠ 0 → (ix_up h a k v 3000 = h 3000 ∧ ix_up h a k v 3001 = h 3001) := by
    intro a k v h7 h0
    refine ⟨ix_up_ne (fun z => h7 ?_), ix_up_ne (fun z => h0 ?_)⟩
    · rw [← z]; exact ix_k3000
    · rw [← z]; exact ix_k3001
  unfold ix_gh at hg
  unfold ix_res at hres
  split at hg
  · rename_i idx a r he
    rw [he] at hdg hlen hres
    have hn : ix_len o = 3 := by rcases hlen with h1 | h1 <;> first | exact h1.symm | cases h1
    rw [hn] at hdg kk
    dsimp only at hres
    split at hg
    · rename_i hc
      have ha := hF4 a hc.1 (by omega) (by omega)
      split at hg
      · rename_i t hf
        cases hg
        exact ix_lget (r := 0) hx hb hts hnw hown hK hP ha hc.2.1 hc.2.2 hf (of_decide_eq_true hres) hdg (kk _ _ hP hS ⟨rfl, rfl⟩)
      · rename_i hf
        cases hg
        exact ix_lget (r := 0) hx hb hts hnw hown hK hP ha hc.2.1 hc.2.2 hf (of_decide_eq_true hres) hdg (kk _ _ hP hS ⟨rfl, rfl⟩)
      · cases hg
    · cases hg
  · rename_i idx v a r he
    rw [he] at hdg hlen hres
    have hn : ix_len o = 3 := by rcases hlen with h1 | h1 <;> first | exact h1.symm | cases h1
    rw [hn] at hdg kk
    dsimp only at hres
    split at hg
    · rename_i hc
      have ha := hF4 a hc.1 (by omega) (by omega)
      cases hg
      exact ix_lput hx hb hts hnw hown hK hF hP hS ha hc.2.1 hc.2.2.1 hc.2.2.2 (of_decide_eq_true hres) hdg (fun H1 locs1 q1 q2 => kk H1 locs1 q1 q2 (hup a _ v (by omega) (by omega)))
    · cases hg
  · rename_i j a r he
    rw [he] at hdg hlen
    have hn : ix_len o = 1 := by rcases hlen with h1 | h1 <;> first | exact h1.symm | cases h1
    rw [hn] at hdg kk
    split at hg
    · rename_i hc
      have ha := hF4 a hc.1 (by omega) (by omega)
      obtain ⟨k, hk⟩ := List.getElem?_of_mem ha
      have hw := ix_ws_at (G := G) (ad := ad) (h := h) hk
      rw [ix_cell1 hc.2.1] at hw
      cases hg
      exact va_iald hx hb hK hP k 1 hw rfl hc.2.2 hdg (kk _ _ hP hS ⟨rfl, rfl⟩)
    · split at hg
      · rename_i hc
        have ea := ix_k7 hc.1
        subst ea
        cases hg
        exact va_sld (A := fun q => lo ≤ q) hx hb hX.1 (Nat.lt_of_lt_of_le hX.2.2 hlo) (Nat.not_le.mpr hX.2.2) hS hc.2 hdg (kk _ _ hP hS ⟨rfl, rfl⟩)
      · cases hg
  · rename_i v j a r he
    rw [he] at hdg hlen
    have hn : ix_len o = 1 := by rcases hlen with h1 | h1 <;> first | exact h1.symm | cases h1
    rw [hn] at hdg kk
    split at hg
    · rename_i hc
      have ha := hF4 a hc.1 (by omega) (by omega)
      obtain ⟨k, hk⟩ := List.getElem?_of_mem ha
      have hw := ix_ws_at (G := G) (ad := ad) (h := h) hk
      rw [ix_cell1 hc.2.1] at hw
      cases hg
      refine va_iast hx hb hK hP (ix_va_D hF h) hS k 1 hw rfl hc.2.2 hdg (fun H1 locs1 q1 _ q3 => ?_)
      rw [ix_ws_set (h' := ix_up h a j.toNatClampNeg v) hF1 hk (by rw [ix_cell1 hc.2.1, ix_up_eq]) (fun b hb => ix_cell_of (ix_up_ne hb))] at q1
      exact kk H1 locs1 q1 q3 (hup a _ v (by omega) (by omega))
    · cases hg
  · rename_i j a r he
    rw [he] at hdg hlen
    have hn : ix_len o = 1 := by rcases hlen with h1 | h1 <;> first | exact h1.symm | cases h1
    rw [hn] at hdg kk
    split at hg
    · rename_i hc
      have ha := hF4 a hc.1 (by omega) (by omega)
      obtain ⟨k, hk⟩ := List.getElem?_of_mem ha
      have hw := ix_ws_at (G := G) (ad := ad) (h := h) hk
      rw [ix_cell2 hc.2.1] at hw
      cases hg
      exact va_bald hx hb hK hP k 0 hw rfl hc.2.2 hdg (kk _ _ hP hS ⟨rfl, rfl⟩)
    · cases hg
  · rename_i v j a r he
    rw [he] at hdg hlen
    have hn : ix_len o = 1 := by rcases hlen with h1 | h1 <;> first | exact h1.symm | cases h1
    rw [hn] at hdg kk
    split at hg
    · rename_i hc
      have ha := hF4 a hc.1 (by omega) (by omega)
      obtain ⟨k, hk⟩ := List.getElem?_of_mem ha
      have hw := ix_ws_at (G := G) (ad := ad) (h := h) hk
      rw [ix_cell2 hc.2.1] at hw
      cases hg
      refine va_bast hx hb hK hP (ix_va_D hF h) hS k 0 hw rfl hc.2.2 hdg (fun H1 locs1 q1 _ q3 => ?_)
      rw [ix_ws_set (h' := ix_up h a j.toNatClampNeg (vp_nar .byte v)) hF1 hk (by rw [ix_cell2 hc.2.1, ix_up_eq]) (fun b hb => ix_cell_of (ix_up_ne hb))] at q1
      exact kk H1 locs1 q1 q3 (hup a _ _ (by omega) (by omega))
    · cases hg
  · rename_i j a r he
    rw [he] at hdg hlen
    have hn : ix_len o = 1 := by rcases hlen with h1 | h1 <;> first | exact h1.symm | cases h1
    rw [hn] at hdg kk
    split at hg
    · rename_i hc
      have ha := hF4 a hc.1 (by omega) (by omega)
      obtain ⟨k, hk⟩ := List.getElem?_of_mem ha
      have hw := ix_ws_at (G := G) (ad := ad) (h := h) hk
      rw [ix_cell3 hc.2.1] at hw
      cases hg
      have hcell : H[ad a]? = some (vp_cell G.2.2.1 (ix_n a, .inr (.inr (.inr (.inr (fun j => some (ad (ix_b a + j)))))))) := hP k _ hw
      have hj : j.toNatClampNeg < ix_n a := by
        rcases Nat.lt_or_ge j.toNatClampNeg (ix_n a) with q | q
        · exact q
        · exact absurd (Or.inr q) hc.2.2
      exact W.aald hx hb (ty := .array .int) hcell ((hK.2 2 _ rfl).1 _ _) rfl (fun z => by cases z) (by show ¬ (j < 0 ∨ (arrV G.2.2.1 (ix_n a) _).slots.size ≤ j.toNatClampNeg); rw [arrV_size]; exact hc.2.2) (arrV_read _ _ hj) rfl rfl hdg (kk _ _ hP hS ⟨rfl, rfl⟩)
    · cases hg
  · rename_i j a r he
    rw [he] at hdg hlen
    have hn : ix_len o = 1 := by rcases hlen with h1 | h1 <;> first | exact h1.symm | cases h1
    rw [hn] at hdg kk
    split at hg
    · rename_i hc
      have ha := hF4 a hc.1 (by omega) (by omega)
      obtain ⟨k, hk⟩ := List.getElem?_of_mem ha
      have hw := ix_ws_at (G := G) (ad := ad) (h := h) hk
      rw [ix_cell4 hc.2.1] at hw
      cases hg
      exact va_lald hx hb hK hP k 3 hw rfl hc.2.2 hdg (kk _ _ hP hS ⟨rfl, rfl⟩)
    · cases hg
  · rename_i v j a r he
    rw [he] at hdg hlen
    have hn : ix_len o = 1 := by rcases hlen with h1 | h1 <;> first | exact h1.symm | cases h1
    rw [hn] at hdg kk
    split at hg
    · rename_i hc
      have ha := hF4 a hc.1 (by omega) (by omega)
      obtain ⟨k, hk⟩ := List.getElem?_of_mem ha
      have hw := ix_ws_at (G := G) (ad := ad) (h := h) hk
      rw [ix_cell4 hc.2.1] at hw
      cases hg
      refine va_last hx hb hK hP (ix_va_D hF h) hS k 3 hw rfl hc.2.2.1 hdg (fun H1 locs1 q1 _ q3 => ?_)
      rw [ix_ws_set (h' := ix_up h a j.toNatClampNeg v.toInt32) hF1 hk (by
        rw [ix_cell4 hc.2.1, ix_up_eq]
        congr 5
        funext i
        unfold upd vp_updL
        split
        · exact hc.2.2.2
        · rfl) (fun b hb => ix_cell_of (ix_up_ne hb))] at q1
      exact kk H1 locs1 q1 q3 (hup a _ _ (by omega) (by omega))
    · cases hg
  · rename_i a r he
    rw [he] at hdg hlen
    have hn : ix_len o = 1 := by rcases hlen with h1 | h1 <;> first | exact h1.symm | cases h1
    rw [hn] at hdg kk
    split at hg
    · rename_i hc
      have ha := hF4 a hc.1 (by omega) (by omega)
      obtain ⟨k, hk⟩ := List.getElem?_of_mem ha
      have hw := ix_ws_at (G := G) (ad := ad) (h := h) hk
      cases hg
      rcases hc.2 with h1 | h1 | h1
      · rw [ix_cell1 h1] at hw
        exact va_alen hx hb hK hP k 1 hw rfl rfl hdg (kk _ _ hP hS ⟨rfl, rfl⟩)
      · rw [ix_cell2 h1] at hw
        exact va_alen hx hb hK hP k 0 hw rfl rfl hdg (kk _ _ hP hS ⟨rfl, rfl⟩)
      · rw [ix_cell3 h1] at hw
        exact va_alen hx hb hK hP k 2 hw rfl rfl hdg (kk _ _ hP hS ⟨rfl, rfl⟩)
    · split at hg
      · rename_i hc
        have ea := ix_k7 hc
        subst ea
        cases hg
        obtain ⟨scr, g1, g2, g3, g4, g5⟩ := hX.1
        have hH : H[ad 3000]? = some scr := by rw [hS.2.1 _ (Nat.lt_of_lt_of_le hX.2.2 hlo) (Nat.not_le.mpr hX.2.2)]; exact g1
        exact W.alen hx hb (n := h 3001 0) hH g2 (by rw [g4]; exact hX.2.1) rfl rfl hdg (kk _ _ hP hS ⟨rfl, rfl⟩)
      · cases hg
  · rename_i idx n dp a sp b r he
    rw [he] at hdg hlen hres
    have hn : ix_len o = 3 := by rcases hlen with h1 | h1 <;> first | exact h1.symm | cases h1
    rw [hn] at hdg kk
    dsimp only at hres
    split at hg
    · rename_i hc
      obtain ⟨c0, c1, c2, c3, c4, c5, c6, c7, c8, c9, c10⟩ := hc
      have ha := hF4 a c1 (by omega) (by omega)
      have hbm := hF4 b c2 (by omega) (by omega)
      obtain ⟨k, hk⟩ := List.getElem?_of_mem ha
      obtain ⟨k2, hk2⟩ := List.getElem?_of_mem hbm
      have hw := ix_ws_at (G := G) (ad := ad) (h := h) hk
      have hw2 := ix_ws_at (G := G) (ad := ad) (h := h) hk2
      rw [ix_cell1 c3] at hw
      rw [ix_cell1 c4] at hw2
      simp only [Bool.and_eq_true, decide_eq_true_eq] at hres
      have hx0 : ix_x o = 0 ∧ ix_z o = 5 := by
        have := ix_ac7 _ hres.2 c0
        exact this
      rw [c0, hx0.1, hx0.2] at hres
      obtain ⟨w1, w2, w3, w4⟩ := hac idx hres.2
      cases hg
      refine va_copyi hx hb hml hown w1 w2 w3 w4 hK hP (ix_va_D hF h) hS k2 k 1 1 hw2 hw rfl rfl rfl c5 c6 c7 c8 c9 (fun _ _ => rfl) (by omega) ?_ hdg (fun H1 locs1 q1 _ q3 => ?_)
      · have e1 : (List.map (fun v => Value.category v) (List.map (ix_cv ad) r)) = r.map (fun v => v.category) := by
          rw [List.map_map]
          exact List.map_congr_left (fun v _ => ix_cv_cat ad v)
        rw [e1]
        have e2 : nativeFrameWords "java/lang/System" "arraycopy" 5 = 7 := by decide
        rw [e2]
        omega
      · rw [ix_ws_set (h' := ix_cpy h b sp.toNatClampNeg a dp.toNatClampNeg n.toNatClampNeg) hF1 hk (by
          rw [ix_cell1 c3]
          unfold ix_cpy ix_row
          rw [if_pos rfl]) (fun x hxa => ix_cell_of (by unfold ix_cpy ix_row; rw [if_neg hxa]))] at q1
        refine kk H1 locs1 q1 q3 ⟨?_, ?_⟩
        · exact if_neg (fun z : 3000 = a => by rw [← z, ix_k3000] at c3; cases c3)
        · exact if_neg (fun z : 3001 = a => by rw [← z, ix_k3001] at c3; cases c3)
    · cases hg
  · cases hg
end IXH2
end
section
def ix_en (x : Nat) : String := if x = 0 then "java/lang/IllegalArgumentException" else "java/util/NoSuchElementException"
def ix_txL : List Nat := [5, 3, 24, 4, 3, 3, 4, 4, 4, 4, 5, 5, 5, 4, 18, 3, 4, 5, 8, 4, 4]
def ix_txB : List (List Int32) := [[97, 103, 97, 105, 110], [97, 103, 101], [97, 110, 32, 97, 114, 103, 117, 109, 101, 110, 116, 32, 105, 115, 32, 110, 111, 110, 101, 32, 115, 117, 99, 104], [98, 97, 114, 101], [98, 97, 121], [99, 114, 121], [102, 97, 100, 101], [102, 101, 108, 116], [102, 105, 108, 108], [107, 101, 101, 112], [108, 101, 97, 115, 116], [108, 111, 111, 115, 101], [109, 97, 116, 101, 115], [109, 111, 115, 116], [110, 111, 32, 115, 117, 99, 104, 32, 98, 97, 121, 32, 111, 114, 32, 99, 114, 121], [111, 117, 116], [112, 97, 116, 104], [112, 105, 116, 99, 104], [115, 116, 114, 101, 110, 103, 116, 104], [116, 101, 114, 109], [121, 101, 97, 114]]
def ix_nms : List String := ["java/lang/RuntimeException", "java/lang/Exception"]
def ix_RT : String := "java/lang/RuntimeException"
def ix_own2 (own : String) (ic : Nat) (X : String) : List Cond :=
  Bundle.throwableAtoms ++ Bundle.throwableSAtoms ++ (Bundle.passSAtoms X ix_RT 13 prog_30_method_4_code ++ Bundle.chainSAtoms ix_RT ["java/lang/Exception"]) ++
  [.methodLink own ic (Bundle.initS X), .instantiable X 6, .castable X X, .selects X Bundle.tFill0 Bundle.tFill0, .selects X Bundle.tFill Bundle.tFill,
   .lays X Bundle.tN "cause" "Ljava/lang/Throwable;", .lays X Bundle.tN "stackTrace" Bundle.steD, .lays X Bundle.tN "suppressedExceptions" Bundle.listD, .lays X Bundle.tN "detailMessage" "Ljava/lang/String;",
   .isRef (.static Bundle.tN "UNASSIGNED_STACK" Bundle.steD), .isRef (.static Bundle.tN "SUPPRESSED_SENTINEL" Bundle.listD),
   .fieldLink Bundle.tN 198 Bundle.tN "backtrace" "Ljava/lang/Object;", .lays Bundle.tN Bundle.tN "backtrace" "Ljava/lang/Object;", .lays X Bundle.tN "backtrace" "Ljava/lang/Object;"]
def ix_thw (x : Nat) : List Cond := if x = 0 then Cond.classLink "CryGorge" 400 (ix_en 0) :: Cond.initialized (ix_en 0) :: vx_atS "CryGorge" 404 (ix_en 0) ix_nms else Cond.classLink "CryGorge" 413 (ix_en 1) :: Cond.initialized (ix_en 1) :: (ix_own2 "CryGorge" 417 (ix_en 1)).filter vx_no
def ix_thA : List Cond := ix_thw 0 ++ ix_thw 1
theorem ix_thA_ok : ix_thA.all (fun w => w.keepsFace && w.onTables) = true := by decide +kernel
abbrev ix_A (lo : Nat) : Nat → Prop := fun q => lo ≤ q
def ix_Es (ad : Nat → Nat) (lo : Nat) (U : State) (H : Heap) : Prop :=
  lo ≤ H.size ∧ (∀ e ∈ ix_flS, e.2.2.2.2 ≠ 0 → va_Nw (ix_fw e) U) ∧ (∀ e ∈ ix_mkS, e.2.2.2.1 = 2 → va_Nw (ix_mkw e) U) ∧ (∀ e ∈ ix_sks, ∃ tx : String, vk_R (ix_cn e.1) e.2.1 tx (ad e.2.2) U) ∧
  vx_Zq Bundle.tN "UNASSIGNED_STACK" Bundle.steD (ix_A lo) U H ∧ vx_Zq Bundle.tN "SUPPRESSED_SENTINEL" Bundle.listD (ix_A lo) U H ∧
  (∃ sa : Nat, vk_R "CryGorge" 402 "an argument is none such" sa U) ∧ (∃ sa : Nat, vk_R "CryGorge" 415 "no such bay or cry" sa U) ∧
  (∃ adV : Nat → Nat, vk_S 21 ix_txL ix_txB (fun i => ad (2000 + i)) adV (ix_A lo) U H) ∧ va_Z "java/lang/String" "COMPACT_STRINGS" "Z" (.int 1) (ix_A lo) U H ∧ va_Zq "jdk/internal/util/Preconditions" "SIOOBE_FORMATTER" "Ljava/util/function/BiFunction;" (ix_A lo) U H ∧ (∀ w ∈ ix_thA, va_Nw w U)
theorem ix_Es.kept {ad : Nat → Nat} {lo : Nat} {U : State} {H H1 : Heap} (h : ix_Es ad lo U H) (hz : H.size ≤ H1.size) (hq : ∀ a : Nat, a < H.size → ¬ ix_A lo a → H1[a]? = H[a]?) : ix_Es ad lo U H1 := by
  obtain ⟨h1, h2, h3, h4, h5, h6, h7, h8, ⟨adV, h9⟩, h10, h11, h12⟩ := h
  exact ⟨Nat.le_trans h1 hz, h2, h3, h4, h5.kept hq, h6.kept hq, h7, h8, ⟨adV, h9.kept hq⟩, h10.kept hq, h11.kept hq, h12⟩
theorem ix_Es.moved {ad : Nat → Nat} {lo : Nat} {s U : State} {H : Heap} (hW : s.WarmedH U.vm) (h : ix_Es ad lo s H) : ix_Es ad lo U H := by
  obtain ⟨h1, h2, h3, h4, h5, h6, ⟨a7, h7⟩, ⟨a8, h8⟩, ⟨adV, h9⟩, h10, h11, h12⟩ := h
  refine ⟨h1, fun e he hz => ?_, fun e he hz => ?_, fun e he => ?_, vx_Zq.moved hW.alike h5, vx_Zq.moved hW.alike h6, ⟨a7, vk_R.warm hW h7⟩, ⟨a8, vk_R.warm hW h8⟩, ⟨adV, vk_S.moved hW.alike h9⟩, va_Z.moved hW.alike h10, va_Zq.moved hW.alike h11, fun w hw => ?_⟩
  · have h9 := h2 e he hz
    unfold ix_fw at h9 ⊢
    rw [if_neg hz] at h9 ⊢
    exact va_Nw.warmF hW h9
  · have h9 := h3 e he hz
    unfold ix_mkw at h9 ⊢
    rw [if_pos hz] at h9 ⊢
    exact va_Nw.warmM hW h9
  · obtain ⟨tx, h9⟩ := h4 e he
    exact ⟨tx, vk_R.warm hW h9⟩
  · have hg := List.all_eq_true.mp ix_thA_ok w hw
    simp only [Bool.and_eq_true] at hg
    exact va_tabs (u := s.setVm U.vm) hg.2 rfl (Cond.before_shiftedFace (State.Shifted.of_warmed hW) w hg.1 (h12 w hw))
theorem ix_SX.kept {ad : Nat → Nat} {lo : Nat} {h : ix_H} {U : State} {H H1 : Heap} (hh : ix_SX ad lo h U H) (hlo : lo ≤ H.size) (hq : ∀ a : Nat, a < H.size → ¬ ix_A lo a → H1[a]? = H[a]?) : ix_SX ad lo h U H1 :=
  ⟨hh.1.kept (hq _ (Nat.lt_of_lt_of_le hh.2.2 hlo) (Nat.not_le.mpr hh.2.2)), hh.2⟩
theorem ix_SX.moved {ad : Nat → Nat} {lo : Nat} {h : ix_H} {s U : State} {H : Heap} (hvm : s.vm.Alike U.vm) (hh : ix_SX ad lo h s H) : ix_SX ad lo h U H := ⟨hh.1.moved hvm, hh.2⟩
theorem ix_SX.same {ad : Nat → Nat} {lo : Nat} {h h' : ix_H} {U : State} {H : Heap} (hh : ix_SX ad lo h U H) (e1 : h' 3000 = h 3000) (e2 : h' 3001 = h 3001) : ix_SX ad lo h' U H := by
  unfold ix_SX
  rw [e1, e2]
  exact hh
def ix_St (D : va_G) (G : ix_G) (ad : Nat → Nat) (ids : List Nat) (lo : Nat) (h : ix_H) (U : State) : Prop := va_P D vwCl (ix_ws G ad ids h) U.heap ∧ va_K D vwCl (ix_tys G) U ∧ ix_Es ad lo U U.heap ∧ ix_SX ad lo h U U.heap
theorem ix_St.of {D : va_G} {G : ix_G} {ad : Nat → Nat} {ids : List Nat} {lo : Nat} {h : ix_H} {s U : State} {H : Heap} {locs : List Loc} (hP : va_P D vwCl (ix_ws G ad ids h) H) (hK : va_K D vwCl (ix_tys G) s) (hE : ix_Es ad lo s s.heap) (hX : ix_SX ad lo h s s.heap) (hS : va_S (ix_A lo) s.heap H locs) (hU : U.heap = H) (hW : s.WarmedH U.vm) : ix_St D G ad ids lo h U := by
  refine ⟨by rw [hU]; exact hP, va_K.moved hW.alike hK, ?_, ?_⟩
  · rw [hU]; exact (hE.kept hS.1 hS.2.1).moved hW
  · rw [hU]; exact (hX.kept hE.1 hS.2.1).moved hW.alike
def ix_Sp (D : va_G) (G : ix_G) (ad : Nat → Nat) (ids : List Nat) (lo : Nat) (h : ix_H) (U : State) : Prop := va_P D vwCl (ix_ws G ad ids h) U.heap ∧ ix_SX ad lo h U U.heap
abbrev ix_Q4 : Type := MethodName × ByteArray × Nat × Option FieldType
def ix_wsM (mi : Nat) (q : ix_Q4) : List Cond := ix_hw mi q :: ix_gw
def ix_rm (d k : Nat) : Room := { frames := d + 12, cells := k, slots := 6 * k, locals := 41 * d + 300 }
section IXC
variable (D : va_G) (G : ix_G) (ad : Nat → Nat) (ids : List Nat) (lo : Nat)
def ix_Pc (vs : List Value) (h : ix_H) : Array Value → State → Prop := va_Pc (vs.map (ix_cv ad)) (ix_St D G ad ids lo h)
def ix_Qc (r : ix_R) : Array Value → State → Outcome → State → Prop := fun _ st o t => ∃ v : Option Value, r.1 = .inl v ∧ o = .returned (v.map (ix_cv ad)) ∧ ix_Sp D G ad ids lo r.2.1 t ∧ va_F (ix_A lo) st t
def ix_XC (r : ix_R) : String → State → State → Prop := fun E st t => ∃ x : Nat, r.1 = .inr x ∧ E = ix_en x ∧ ix_Sp D G ad ids lo r.2.1 t ∧ va_F (ix_A lo) st t
def ix_Ct (l : Launch) (d mi : Nat) (args : List Value) (h : ix_H) (r : ix_R) : Prop := ∀ q : ix_Q4, ix_cal mi = some q → vx_Met l q.1 (ix_wsM mi q) (ix_rm d r.2.2) (ix_Pc D G ad ids lo args h) (ix_Qc D G ad ids lo r) (ix_XC D G ad ids lo r) r.2.2 (6 * r.2.2) (ix_A lo)
end IXC
theorem ix_blind {D : va_G} {G : ix_G} {ad : Nat → Nat} {ids : List Nat} {lo : Nat} {vs : List Value} {h : ix_H} : FrameBlind (ix_Pc D G ad ids lo vs h) := by
  intro a U g mk hp
  obtain ⟨h1, h2, h3, h4, h5⟩ := hp
  refine ⟨h1, h2, va_K.moved (u := U) (U := U.calling g mk a) (Vm.Alike.refl U.vm) h3, ?_, ?_⟩
  · exact ix_Es.moved (s := U) (U := U.calling g mk a) (State.WarmedH.refl U) h4
  · exact ix_SX.moved (s := U) (U := U.calling g mk a) (Vm.Alike.refl U.vm) h5
theorem ix_vxMet {l : Launch} {y : MethodName} {ws : List Cond} {rm : Room} {Pc : Array Value → State → Prop} {Qc : Array Value → State → Outcome → State → Prop} {XC : String → State → State → Prop} {mc ms : Nat} {free : Addr → Prop} (h : vx_Met l y ws rm Pc Qc XC mc ms free) (hx : ∀ E s t, ¬ XC E s t) : Met l y ws rm Pc Qc mc ms free := by
  intro p e ha hc hk s m args below hf hfit hP hK
  obtain ⟨t, o, h1, h2, h3, h4⟩ := h p e ha hc hk s m args below hf hfit hP hK
  refine ⟨t, o, h1, h2, h3, ?_⟩
  rcases h4 with h4 | ⟨q, -, E, ce, L, hE, -⟩
  · exact h4
  · exact absurd hE (hx _ _ _)
end
section
section IXR
variable {dm : Nat → Bool} {call : Nat → List Value → ix_H → Option ix_R} {ops : List ix_Op} {hs : List ix_Hd} {g i k : Nat} {ls st : List Value} {h : ix_H} {r : ix_R}
theorem ix_run_cases (hr : ix_run dm call ops hs (g + 1) i ls st h k = some r) : ∃ o, ops[i]? = some o ∧
    ((∃ q, ix_g1 o ls st = some q ∧ ix_run dm call ops hs g (i + 1) q.1 q.2 h k = some r) ∨
    (∃ q, ix_g2 o ls st = some q ∧ ix_run dm call ops hs g (i + 1) q.1 q.2 h k = some r) ∨
    (∃ q, ix_g3 o ls st = some q ∧ ix_run dm call ops hs g (i + 1) q.1 q.2 h k = some r) ∨
    (∃ q, ix_gb o i st = some q ∧ ix_run dm call ops hs g q.1 ls q.2 h k = some r) ∨
    (∃ q, ix_gh dm o st h = some q ∧ ix_run dm call ops hs g (i + 1) ls q.1 q.2 k = some r) ∨
    (ix_iscall (ix_ins o) = true ∧ ix_y o < 4 ∧ ix_z o ≤ st.length ∧ ((st.drop (ix_z o)).map fun v => v.category).sum ≤ 8 ∧ ix_rcv dm o (st.take (ix_z o)).reverse = true ∧ ∃ (h' : ix_H) (k' : Nat),
      ((∃ v : Option Value, call (ix_x o) (st.take (ix_z o)).reverse h = some (.inl v, h', k') ∧ ix_run dm call ops hs g (i + 1) ls (v.toList ++ st.drop (ix_z o)) h' (k + k') = some r) ∨
      (∃ x : Nat, ix_y o = 0 ∧ call (ix_x o) (st.take (ix_z o)).reverse h = some (.inr x, h', k') ∧ ((hs = [] ∧ r = (.inr x, h', k + k')) ∨
        (∃ e, ix_find hs (ix_pc o) x = some e ∧ e.2.2.2.2 < ls.length ∧ ix_run dm call ops hs g e.2.2.2.1 (ls.set e.2.2.2.2 .null) [] h' (k + k') = some r))))) ∨
    (∃ v : Int32, ix_ins o = .ireturn ∧ st = [.int v] ∧ (ix_x o = 0 ∨ v = 0 ∨ v = 1) ∧ r = (.inl (some (.int v)), h, k)) ∨
    (ix_ins o = .return_ ∧ st = [] ∧ r = (.inl none, h, k)) ∨
    (∃ ik : Nat, ix_ins o = .new ik ∧ st = [] ∧ ix_y o = 1 ∧ r = (.inr (ix_x o), h, k + 1))) := by
  rw [ix_run] at hr
  cases ho : ops[i]? with
  | none => rw [ho] at hr; cases hr
  | some o =>
    refine ⟨o, rfl, ?_⟩
    rw [ho] at hr
    dsimp only at hr
    cases h1 : ix_g1 o ls st with
    | some q => rw [h1] at hr; exact Or.inl ⟨q, rfl, hr⟩
    | none =>
    rw [h1] at hr
    dsimp only at hr
    refine Or.inr ?_
    cases h2 : ix_g2 o ls st with
    | some q => rw [h2] at hr; exact Or.inl ⟨q, rfl, hr⟩
    | none =>
    rw [h2] at hr
    dsimp only at hr
    refine Or.inr ?_
    cases h3 : ix_g3 o ls st with
    | some q => rw [h3] at hr; exact Or.inl ⟨q, rfl, hr⟩
    | none =>
    rw [h3] at hr
    dsimp only at hr
    refine Or.inr ?_
    cases h4 : ix_gb o i st with
    | some q => rw [h4] at hr; exact Or.inl ⟨q, rfl, hr⟩
    | none =>
    rw [h4] at hr
    dsimp only at hr
    refine Or.inr ?_
    cases h5 : ix_gh dm o st h with
    | some q => rw [h5] at hr; exact Or.inl ⟨q, rfl, hr⟩
    | none =>
    rw [h5] at hr
    dsimp only at hr
    refine Or.inr ?_
    split at hr
    · rename_i hc
      split at hr
      · rename_i hz
        refine Or.inl ⟨hc, hz.1, hz.2.1, hz.2.2.1, hz.2.2.2, ?_⟩
        split at hr
        · cases hr
        · rename_i v h' k' hcall
          exact ⟨h', k', Or.inl ⟨v, hcall, hr⟩⟩
        · rename_i x h' k' hcall
          split at hr
          · cases hr
          rename_i hy0
          refine ⟨h', k', Or.inr ⟨x, by omega, hcall, ?_⟩⟩
          split at hr
          · split at hr
            · rename_i he
              exact Or.inl ⟨List.isEmpty_iff.mp he, (Option.some.inj hr).symm⟩
            · cases hr
          · rename_i e9 hf
            split at hr
            · rename_i hl
              exact Or.inr ⟨e9, hf, hl, hr⟩
            · cases hr
      · cases hr
    · refine Or.inr ?_
      split at hr
      · rename_i v he
        split at hr
        · rename_i hv
          exact Or.inl ⟨v, he, rfl, hv, (Option.some.inj hr).symm⟩
        · cases hr
      · rename_i he
        exact Or.inr (Or.inl ⟨he, rfl, (Option.some.inj hr).symm⟩)
      · rename_i ik he
        split at hr
        · rename_i hy
          exact Or.inr (Or.inr ⟨ik, he, rfl, hy, (Option.some.inj hr).symm⟩)
        · cases hr
      · cases hr
end IXR
theorem ix_run_mono {dm : Nat → Bool} {call : Nat → List Value → ix_H → Option ix_R} {ops : List ix_Op} {hs : List ix_Hd} : ∀ (g i : Nat) (ls st : List Value) (h : ix_H) (k : Nat) (r : ix_R), ix_run dm call ops hs g i ls st h k = some r → k ≤ r.2.2 := by
  intro g
  induction g with
  | zero => intro i ls st h k r hr; rw [ix_run] at hr; cases hr
  | succ g ih =>
    intro i ls st h k r hr
    obtain ⟨o, -, hc⟩ := ix_run_cases hr
    rcases hc with ⟨q, -, h1⟩ | ⟨q, -, h1⟩ | ⟨q, -, h1⟩ | ⟨q, -, h1⟩ | ⟨q, -, h1⟩ | ⟨-, -, -, -, -, h', k', h1⟩ | ⟨v, -, -, -, h1⟩ | ⟨-, -, h1⟩ | ⟨ik, -, -, -, h1⟩
    · exact ih _ _ _ _ _ _ h1
    · exact ih _ _ _ _ _ _ h1
    · exact ih _ _ _ _ _ _ h1
    · exact ih _ _ _ _ _ _ h1
    · exact ih _ _ _ _ _ _ h1
    · rcases h1 with ⟨v, -, h2⟩ | ⟨x, -, -, ⟨-, h2⟩ | ⟨e, -, -, h2⟩⟩
      · have := ih _ _ _ _ _ _ h2; omega
      · rw [h2]; exact Nat.le_add_right _ _
      · have := ih _ _ _ _ _ _ h2; omega
    · rw [h1]; exact Nat.le_refl _
    · rw [h1]; exact Nat.le_refl _
    · rw [h1]; exact Nat.le_add_right _ _
theorem ix_run_some {dm : Nat → Bool} {call : Nat → List Value → ix_H → Option ix_R} {ops : List ix_Op} {hs : List ix_Hd} {g i : Nat} {ls st : List Value} {h : ix_H} {k : Nat} {r : ix_R} (hr : ix_run dm call ops hs g i ls st h k = some r) : ∃ o, ops[i]? = some o := by
  cases g with
  | zero => rw [ix_run] at hr; cases hr
  | succ g =>
    obtain ⟨o, ho, -⟩ := ix_run_cases hr
    exact ⟨o, ho⟩
theorem ix_chain_at : ∀ (ops : List ix_Op), ix_chain ops = true → ∀ (i : Nat) (o o' : ix_Op), ops[i]? = some o → ops[i + 1]? = some o' → ix_pc o' = ix_pc o + ix_len o
  | [], _, i, o, o', h, _ => by simp at h
  | [a], _, i, o, o', _, h => by simp at h
  | a :: b :: l, hc, 0, o, o', h, h' => by
    rw [ix_chain, Bool.and_eq_true] at hc
    cases h
    cases h'
    exact of_decide_eq_true hc.1
  | a :: b :: l, hc, i + 1, o, o', h, h' => by
    rw [ix_chain, Bool.and_eq_true] at hc
    exact ix_chain_at (b :: l) hc.2 i o o' h h'
end
section
set_option maxRecDepth 100000 in
theorem ix_tabP_eq : ix_tabP = ix_tab.take 260 := rfl
theorem ix_k_mk : ∀ e ∈ ix_mlk, e.2.2.2.1 < 4 → e ∈ ix_mkS := by decide +kernel
def ix_k_vb (e : Nat × Nat × Nat × Nat × Nat) : Bool := decide (4 ≤ e.2.2.2.1) || (decide (e.2.2.1 < 286 ∨ e.2.2.1 = 900 ∨ e.2.2.1 = 901) && decide ((ix_y0 e.2.2.1).cls ∈ ix_inS) &&
  (if e.2.2.2.1 = 0 ∨ e.2.2.2.1 = 2 then decide (e.2.2.1 ∈ ix_viS) && (decide (e.2.2.1 ∈ ix_seS) || decide (e.2.2.1 ∈ ix_prS)) && decide (e.2.2.1 < 260 ∨ 286 ≤ e.2.2.1) else decide (e.2.2.1 ∈ ix_stS)) && (if e.2.2.2.1 = 3 then decide (260 ≤ e.2.2.1 ∧ e.2.2.1 < 286) else decide (e.2.2.1 < 260 ∨ 286 ≤ e.2.2.1)))
theorem ix_k_v : ∀ e ∈ ix_mlk, ix_k_vb e = true := by decide +kernel
theorem ix_y0_of {mi : Nat} {q : ix_Q4} (h : ix_cal mi = some q) : ix_y0 mi = q.1 := by unfold ix_y0; rw [h]; rfl
theorem ix_W1 {e : Nat × Nat × Nat × Nat × Nat} (he : e ∈ ix_mlk) (h7 : e.2.2.2.1 < 4) : ix_mkw e ∈ lw_tbl := ix_tbl (ix_sub_ok _ _ ix_s2 _ (List.mem_map.mpr ⟨e, ix_k_mk e he h7, rfl⟩))
theorem ix_W2 {mi : Nat} (h : mi ∈ ix_viS) : Cond.instanceMethod (ix_y0 mi) ∈ lw_tbl := ix_tbl (ix_sub_ok _ _ ix_s3 _ (List.mem_map.mpr ⟨mi, h, rfl⟩))
theorem ix_W3 {mi : Nat} (h : mi ∈ ix_stS) : Cond.static (ix_y0 mi) ∈ lw_tbl := ix_tbl (ix_sub_ok _ _ ix_s4 _ (List.mem_map.mpr ⟨mi, h, rfl⟩))
theorem ix_W4 {mi : Nat} (h : mi ∈ ix_seS ∨ mi ∈ ix_prS) : ix_selw mi ∈ lw_tbl := by
  rcases h with h | h
  · exact ix_tbl (ix_sub_ok _ _ ix_s5 _ (List.mem_map.mpr ⟨mi, h, rfl⟩))
  · exact List.mem_append_left _ (ix_sub_ok _ _ ix_s6 _ (List.mem_map.mpr ⟨mi, h, rfl⟩))
theorem ix_W5 {c : String} (h : c ∈ ix_inS) : Cond.initialized c ∈ lw_tbl := ix_tbl (ix_sub_ok _ _ ix_s8 _ (List.mem_map.mpr ⟨c, h, rfl⟩))
theorem ix_gw_good {w : Cond} (h : w ∈ ix_gw) : goodWord w = true := (List.mem_filter.mp h).2
theorem ix_hwl {mi : Nat} {q : ix_Q4} (h : ix_cal mi = some q) (hm : mi < 260 ∨ mi = 900 ∨ mi = 901) : ix_hw mi q ∈ lw_tbl := by
  rcases hm with hm | rfl | rfl
  · unfold ix_cal at h
    have e1 : ix_tabP[mi]? = ix_tab[mi]? := by rw [ix_tabP_eq, List.getElem?_take, if_pos hm]
    split at h
    · rename_i M hM
      cases h
      have h1 := ix_cwP M (List.mem_of_getElem? (e1.trans hM))
      unfold ix_hw
      rw [if_pos (Or.inl hm)]
      exact h1
    · split at h
      · omega
      · split at h
        · omega
        · cases h
  · exact cQ_900 q h
  · exact cQ_901 q h
theorem ix_gin {mi : Nat} {q : ix_Q4} (h : ix_cal mi = some q) (hm : mi < 260 ∨ mi = 900 ∨ mi = 901) : GoodIn ix_gw (ix_wsM mi q) := by
  intro w hw
  rcases List.mem_cons.mp hw with rfl | hw
  · have hg : goodWord (ix_hw mi q) = true := by
      unfold ix_hw
      split <;> rfl
    exact ⟨ix_gwm (ix_hwl h hm) hg, good_of_word hg⟩
  · exact ⟨hw, good_of_word (ix_gw_good hw)⟩
theorem ix_plain {mi : Nat} {q : ix_Q4} (hm : mi < 260 ∨ 286 ≤ mi) : ix_wsM mi q = Cond.code q.1 q.2.1 q.2.2.1 q.2.2.2 :: ix_gw := by
  unfold ix_wsM ix_hw
  rw [if_pos hm]
section IXD
variable {p : Program} {l : Launch} {e : Env} {R : Room} {s : State} {m : MethodId} {args : Array Value} {below : List Frame} {meth : Method} {c : Code} {H : Heap} {locs : List Loc} {cells slots mc ms : Nat} {Q : State → Prop}
variable {cc : ByteArray} {pc nL : Nat} {lsA : Array Slot} {rest st0 : List Value} {ad : Nat → Nat} {o : ix_Op} {own : Nat} {D : va_G} {G : ix_G} {ids : List Nat} {dm : Nat → Bool} {lo : Nat} {h : ix_H} {r : ix_R} {a : Array Value}
theorem ix_SXb {t : State} {H1 : Heap} {locs1 : List Loc} {h' : ix_H} (hE : ix_Es ad lo s s.heap) (hv : s.vm.Alike t.vm) (hS : va_S (ix_A lo) s.heap H1 locs1) (hX : ix_SX ad lo h' t H1) : ix_SX ad lo h' s s.heap := by
  obtain ⟨x1, x2, x3⟩ := hX
  refine ⟨(x1.moved hv.symm).kept ?_, x2, x3⟩
  exact (hS.2.1 _ (Nat.lt_of_lt_of_le x3 hE.1) (Nat.not_le.mpr x3)).symm
theorem ix_aft (hE : ix_Es ad lo s s.heap) (hr : vx_Run p l e R s m args below meth c H locs cells slots mc ms (F0 m pc lsA st0) rest (ix_Qc D G ad ids lo r a) (ix_XC D G ad ids lo r) (ix_A lo)) (hS : va_S (ix_A lo) s.heap H locs)
    (kk : ∀ (v : Option Value) (H1 : Heap) (locs1 : List Loc), r.1 = .inl v → va_P D vwCl (ix_ws G ad ids r.2.1) H1 → ix_SX ad lo r.2.1 s s.heap → va_S (ix_A lo) s.heap H1 locs1 → W p l e R s m args below meth c H1 locs1 (cells + mc) (slots + ms) Q (F0 m (pc + 3) lsA ((v.map (ix_cv ad)).toList ++ rest)))
    (kx : ∀ (x : Nat) (q9 : Addr) (ce : Cell) (H1 : Heap) (locs1 : List Loc), r.1 = .inr x → va_P D vwCl (ix_ws G ad ids r.2.1) H1 → ix_SX ad lo r.2.1 s s.heap → va_S (ix_A lo) s.heap H1 locs1 → H1[q9]? = some ce → ce.vm = .none → s.vm.findClass (ix_en x) = some ce.cls → vx_W p l e R s m args below meth c H1 locs1 (cells + mc) (slots + ms) Q (F0 m pc lsA rest) q9) :
    W p l e R s m args below meth c H locs cells slots Q (F0 m pc lsA st0) := by
  intro T hT X
  rcases hr T hT X with ⟨v, st₀, t, T', L, h0, X', hL, e1, e2, ⟨v1, hv1, hv2, ⟨hP, hX⟩, hF⟩, st⟩ | ⟨q, st₀, t, T', L, E, ce, h0, X', hL, e1, e2, ⟨x, hx1, hx2, ⟨hP, hX⟩, hF⟩, hce, hcv, hcl, st⟩
  · cases hv2
    obtain ⟨k1, k2, k3⟩ := vx_keep (A0 := ix_A lo) (A1 := ix_A lo) (free := ix_A lo) h0 e1 hS (fun _ _ h => h) (fun _ h => h) hL hF
    have hal : s.vm.Alike t.vm := by rw [← e2]; exact X'.warmed.alike
    obtain ⟨t2, a1, b1⟩ := kk v1 T'.heap (locs ++ L) hv1 (by rw [e1]; exact hP) (ix_SXb hE hal k3 (by rw [e1]; exact hX)) k3 T' rfl X'
    exact ⟨t2, st t2 a1, b1⟩
  · obtain ⟨k1, k2, k3⟩ := vx_keep (A0 := ix_A lo) (A1 := ix_A lo) (free := ix_A lo) h0 e1 hS (fun _ _ h => h) (fun _ h => h) hL hF
    have hal : s.vm.Alike t.vm := by rw [← e2]; exact X'.warmed.alike
    obtain ⟨t2, a1, b1⟩ := kx x q ce T'.heap (locs ++ L) hx1 (by rw [e1]; exact hP) (ix_SXb hE hal k3 (by rw [e1]; exact hX)) k3 (by rw [e1]; exact hce) hcv (by rw [← hx2]; exact hcl) T' rfl X'
    exact ⟨t2, st.trans a1, b1⟩
theorem ix_vaRun {Qa : State → Outcome → State → Prop} {XC : String → State → State → Prop} {free : Addr → Prop} (hr : va_Run p l e R s m args below meth c H locs cells slots mc ms (F0 m pc lsA st0) rest Qa free) : vx_Run p l e R s m args below meth c H locs cells slots mc ms (F0 m pc lsA st0) rest Qa XC free := fun T hT X => Or.inl (hr T hT X)
end IXD
end
section
theorem ix_tab_c99 : ∀ M ∈ ix_tab, ix_mc M < 99 := by decide +kernel
theorem ix_kz0 : ∀ a, a < 300 → (ix_k (a + 0) = 6 → 2000 ≤ a + 0 ∧ a + 0 < 2021) := by decide +kernel
theorem ix_kz1 : ∀ a, a < 300 → (ix_k (a + 300) = 6 → 2000 ≤ a + 300 ∧ a + 300 < 2021) := by decide +kernel
theorem ix_kz2 : ∀ a, a < 300 → (ix_k (a + 600) = 6 → 2000 ≤ a + 600 ∧ a + 600 < 2021) := by decide +kernel
theorem ix_kz3 : ∀ a, a < 300 → (ix_k (a + 900) = 6 → 2000 ≤ a + 900 ∧ a + 900 < 2021) := by decide +kernel
theorem ix_kz4 : ∀ a, a < 300 → (ix_k (a + 1200) = 6 → 2000 ≤ a + 1200 ∧ a + 1200 < 2021) := by decide +kernel
theorem ix_kz5 : ∀ a, a < 300 → (ix_k (a + 1500) = 6 → 2000 ≤ a + 1500 ∧ a + 1500 < 2021) := by decide +kernel
theorem ix_kz6 : ∀ a, a < 300 → (ix_k (a + 1800) = 6 → 2000 ≤ a + 1800 ∧ a + 1800 < 2021) := by decide +kernel
theorem ix_kz7 : ∀ a, a < 300 → (ix_k (a + 2100) = 6 → 2000 ≤ a + 2100 ∧ a + 2100 < 2021) := by decide +kernel
theorem ix_kz8 : ∀ a, a < 300 → (ix_k (a + 2400) = 6 → 2000 ≤ a + 2400 ∧ a + 2400 < 2021) := by decide +kernel
theorem ix_kz9 : ∀ a, a < 300 → (ix_k (a + 2700) = 6 → 2000 ≤ a + 2700 ∧ a + 2700 < 2021) := by decide +kernel
theorem ix_kz10 : ∀ a, a < 300 → (ix_k (a + 3000) = 6 → 2000 ≤ a + 3000 ∧ a + 3000 < 2021) := by decide +kernel
theorem ix_k6d (a : Nat) (h : a < 3001) : ix_k a = 6 → 2000 ≤ a ∧ a < 2021 := by
  by_cases g0 : a < 300
  · have e := ix_kz0 (a - 0) (by omega)
    rw [show a - 0 + 0 = a by omega] at e
    exact e
  by_cases g1 : a < 600
  · have e := ix_kz1 (a - 300) (by omega)
    rw [show a - 300 + 300 = a by omega] at e
    exact e
  by_cases g2 : a < 900
  · have e := ix_kz2 (a - 600) (by omega)
    rw [show a - 600 + 600 = a by omega] at e
    exact e
  by_cases g3 : a < 1200
  · have e := ix_kz3 (a - 900) (by omega)
    rw [show a - 900 + 900 = a by omega] at e
    exact e
  by_cases g4 : a < 1500
  · have e := ix_kz4 (a - 1200) (by omega)
    rw [show a - 1200 + 1200 = a by omega] at e
    exact e
  by_cases g5 : a < 1800
  · have e := ix_kz5 (a - 1500) (by omega)
    rw [show a - 1500 + 1500 = a by omega] at e
    exact e
  by_cases g6 : a < 2100
  · have e := ix_kz6 (a - 1800) (by omega)
    rw [show a - 1800 + 1800 = a by omega] at e
    exact e
  by_cases g7 : a < 2400
  · have e := ix_kz7 (a - 2100) (by omega)
    rw [show a - 2100 + 2100 = a by omega] at e
    exact e
  by_cases g8 : a < 2700
  · have e := ix_kz8 (a - 2400) (by omega)
    rw [show a - 2400 + 2400 = a by omega] at e
    exact e
  by_cases g9 : a < 3000
  · have e := ix_kz9 (a - 2700) (by omega)
    rw [show a - 2700 + 2700 = a by omega] at e
    exact e
  by_cases g10 : a < 3300
  · have e := ix_kz10 (a - 3000) (by omega)
    rw [show a - 3000 + 3000 = a by omega] at e
    exact e
  omega
theorem ix_vw_cn : ∀ ci, ci < 13 → (vwCl.getD ci ("", fun _ => ("", "", "", false), 0)).1 = ix_cn ci := by decide +kernel
theorem ix_tab_cn : ∀ M ∈ ix_tab, ix_cn (ix_mc M) = (ix_my M).cls := by decide +kernel
theorem ix_k6 {a : Nat} (h6 : ix_k a = 6) : 2000 ≤ a ∧ a < 2021 := by
  have ha : a < 3001 := by
    rcases Nat.lt_or_ge a 3001 with q | q
    · exact q
    · have : ix_k a = 0 := by unfold ix_k ix_sh; rw [if_pos q]
      omega
  exact ix_k6d a ha h6
section IXL
variable {p : Program} {l : Launch} {e : Env} {R : Room} {s : State} {m : MethodId} {args : Array Value} {below : List Frame} {meth : Method} {c : Code} {H : Heap} {locs : List Loc} {k : Nat} {Q : State → Prop}
variable {cc : ByteArray} {pc nL : Nat} {lsA : Array Slot} {st : List Value} {ad : Nat → Nat} {o : ix_Op} {own : Nat} {ops : List ix_Op} {D : va_G} {G : ix_G} {ids : List Nat} {dm : Nat → Bool} {lo d K c0 s0 : Nat} {h : ix_H} {r : ix_R}
theorem ix_lcall (hx : p.tables.exec = Jvm.exec) (hb : c.code = cc) (hml : c.maxLocals = nL) (hsz : lsA.size = nL) (hts : ∀ w ∈ ix_gw, w.before args s = true) (hown : s.vm.findClass (ix_cn own) = some m.cls) (hK : va_K D vwCl (ix_tys G) s)
    (hR : d + 13 ≤ R.frames ∧ 41 * d + 341 ≤ R.locals ∧ c0 + K ≤ R.cells ∧ s0 + 6 * K ≤ R.slots) (hk : k + r.2.2 ≤ K) (hF : ix_Fx ad ids dm lo) (hP : va_P D vwCl (ix_ws G ad ids h) H) (hS : va_S (ix_A lo) s.heap H locs) (hE : ix_Es ad lo s s.heap) (hX : ix_SX ad lo h s s.heap)
    (hdg : decode cc pc = .ok (ix_ins o, ix_len o)) (hlen : ix_lenof (ix_ins o) = ix_len o ∨ ix_lenof (ix_ins o) = 0) (hres : ix_res own cc ops o = true) (hic : ix_iscall (ix_ins o) = true) (h7 : ix_y o < 4) (hz : ix_z o ≤ st.length) (hsum : ((st.drop (ix_z o)).map fun v => v.category).sum ≤ 8)
    (hrcv : ix_rcv dm o (st.take (ix_z o)).reverse = true) (hC : ix_Ct D G ad ids lo l d (ix_x o) (st.take (ix_z o)).reverse h r) (hst3 : ix_y o = 3 → (∀ v, r.1 ≠ .inr v) ∧ ∀ q, ix_cal (ix_x o) = some q → ix_hw (ix_x o) q ∈ lw_tbl) (hst1 : ix_y o = 1 ∨ ix_y o = 2 → ∀ v, r.1 ≠ .inr v) :
    ix_len o = 3 ∧ ∃ a, vx_Run p l e R s m args below meth c H locs (c0 + k) (s0 + 6 * k) r.2.2 (6 * r.2.2) (F0 m pc lsA (st.map (ix_cv ad))) ((st.drop (ix_z o)).map (ix_cv ad)) (ix_Qc D G ad ids lo r a) (ix_XC D G ad ids lo r) (ix_A lo) := by
  have hrest : 2 * (F0 m pc lsA (st.map (ix_cv ad))).monitorRoom + (((st.drop (ix_z o)).map (ix_cv ad)).map fun v => v.category).sum ≤ 8 := by
    refine lv_room ?_
    have e1 : (List.map (fun v => Value.category v) (List.map (ix_cv ad) (st.drop (ix_z o)))) = (st.drop (ix_z o)).map (fun v => v.category) := by
      rw [List.map_map]
      exact List.map_congr_left (fun v _ => ix_cv_cat ad v)
    rw [e1]
    exact hsum
  have hsplit : st = (st.take (ix_z o)).reverse.reverse ++ st.drop (ix_z o) := by rw [List.reverse_reverse, List.take_append_drop]
  generalize hvs : (st.take (ix_z o)).reverse = vs at hrcv hC hsplit
  have hvl : vs.length = ix_z o := by rw [← hvs, List.length_reverse, List.length_take]; omega
  have hstm : st.map (ix_cv ad) = (vs.map (ix_cv ad)).reverse ++ (st.drop (ix_z o)).map (ix_cv ad) := by
    rw [← List.map_reverse, ← List.map_append, ← hsplit]
  unfold ix_res at hres
  unfold ix_iscall at hic
  split at hic
  · rename_i idx he
    rw [he] at hdg hlen hres
    have hn : ix_len o = 3 := by rcases hlen with h1 | h1 <;> first | exact h1.symm | cases h1
    refine ⟨hn, ?_⟩
    rw [hn] at hdg
    dsimp only at hres
    simp only [Bool.and_eq_true, decide_eq_true_eq] at hres
    obtain ⟨⟨r1, r2⟩, r3⟩ := hres
    have hkv := ix_k_v _ r3
    unfold ix_k_vb at hkv
    have har := ix_ar_ok _ r3
    unfold ix_ar at har
    dsimp only at hkv har
    simp only [show ¬ (4 ≤ ix_y o) from by omega, decide_false, Bool.false_or, Bool.and_eq_true, decide_eq_true_eq, if_pos r2, Bool.or_eq_true] at hkv har
    cases hcal : ix_cal (ix_x o) with
    | none => rw [hcal] at har; cases har
    | some q =>
    rw [hcal] at har
    simp only [Bool.and_eq_true, decide_eq_true_eq, Bool.or_eq_true] at har
    obtain ⟨⟨⟨a1, a2⟩, a4⟩, a5⟩ := har
    obtain ⟨⟨⟨v1, v2⟩, ⟨v3, v4⟩, v5⟩, v6⟩ := hkv
    have hy3 : ¬ ix_y o = 3 := by rcases r2 with h1 | h1 <;> omega
    have hmi : ix_x o < 260 ∨ ix_x o = 900 ∨ ix_x o = 901 := by omega
    have hy := ix_y0_of hcal
    have hpl := ix_plain (q := q) v5
    have hgin := ix_gin hcal hmi
    rw [hy] at v2
    have w2 : Cond.instanceMethod q.1 ∈ ix_gw := by have := ix_W2 v3; rw [hy] at this; exact ix_gwm this rfl
    have w4 : Cond.selects q.1.cls q.1 q.1 ∈ ix_gw := by have := ix_W4 v4; unfold ix_selw at this; rw [hy] at this; exact ix_gwm this rfl
    have w5 : Cond.initialized q.1.cls ∈ ix_gw := ix_gwm (ix_W5 v2) rfl
    obtain ⟨a, As, rfl⟩ : ∃ (a : Nat) (As : List Value), vs = .ref a :: As := by
      cases vs with
      | nil => simp only [List.length_nil] at hvl; omega
      | cons b l9 =>
        cases b with
        | ref a => exact ⟨a, l9, rfl⟩
        | _ => unfold ix_rcv at hrcv; rw [he] at hrcv; cases hrcv
    unfold ix_rcv at hrcv
    rw [he] at hrcv
    simp only [ix_iscv, Bool.not_true, Bool.false_or, Bool.or_eq_true, Bool.and_eq_true, decide_eq_true_eq] at hrcv
    have hcellB : ∃ cellB : Cell, H[ad a]? = some cellB ∧ cellB.vm.isStatics = false ∧ s.vm.findClass q.1.cls = some cellB.cls := by
      rcases hrcv with ⟨⟨g1, g2⟩, g3⟩ | ⟨g1, g2⟩
      · have ha := hF.2.2.2 a g1 (by omega) (by omega)
        obtain ⟨j, hj⟩ := List.getElem?_of_mem ha
        have hw := ix_ws_at (G := G) (ad := ad) (h := h) hj
        rw [ix_cell5 g2] at hw
        obtain ⟨C, T, N, hq, -⟩ := ix_obj g2
        obtain ⟨cell, b1, b2, b3⟩ := va_recv hK hP hq hw
        refine ⟨cell, b1, b2, ?_⟩
        have hlt : ix_n a < 13 := (List.getElem?_eq_some_iff.mp hq).1
        have e1 := ix_vw_cn (ix_n a) hlt
        rw [List.getD_eq_getElem?_getD, hq] at e1
        have e1 : C = ix_cn (ix_n a) := e1
        have e2 : q.1.cls = ix_cn (ix_n a) := by
          rw [g3] at r1
          have r1 := List.head_eq_of_cons_eq r1
          cases hM : ix_tab[ix_x o]? with
          | none => rw [hM] at r1; simp at r1; omega
          | some M =>
            rw [hM] at r1
            have r1 : ix_n a = ix_mc M := r1
            unfold ix_cal at hcal
            rw [hM] at hcal
            cases hcal
            rw [r1]
            exact (ix_tab_cn M (List.mem_of_getElem? hM)).symm
        rw [e2, ← e1]
        exact b3
      · obtain ⟨-, -, -, -, -, -, -, -, ⟨adV, hvk⟩, -⟩ := hE
        have hcls : q.1.cls = "java/lang/String" := by
          rw [g2] at r1
          have r1 := List.head_eq_of_cons_eq r1
          cases hM : ix_tab[ix_x o]? with
          | none =>
            unfold ix_cal at hcal
            rw [hM] at hcal
            dsimp only at hcal
            split at hcal
            · cases hcal; rfl
            · split at hcal
              · cases hcal; rfl
              · cases hcal
          | some M =>
            rw [hM] at r1
            have r1 : 99 = ix_mc M := r1
            have := ix_tab_c99 M (List.mem_of_getElem? hM)
            omega
        have h2000 := ix_k6 g1
        have hlt : a - 2000 < 21 := by omega
        have hrc := vk_recv (H := H) (locs := locs) hvk hlt hS
        rw [show 2000 + (a - 2000) = a by omega] at hrc
        rw [hcls]
        exact hrc
    have hAl : (As.map (ix_cv ad)).length = ix_z o - 1 := by rw [List.length_map]; simp only [List.length_cons] at hvl; omega
    have hstk : (F0 m pc lsA (st.map (ix_cv ad))).stack = (As.map (ix_cv ad)).reverse ++ .ref (ad a) :: (st.drop (ix_z o)).map (ix_cv ad) := by
      show st.map (ix_cv ad) = _
      rw [hstm]
      simp [ix_cv]
    have hpre : ∀ U : State, U.heap = H → s.WarmedH U.vm → ix_Pc D G ad ids lo (.ref a :: As) h (Value.ref (ad a) :: As.map (ix_cv ad)).toArray U := fun U hU hW => ⟨rfl, ix_St.of hP hK hE hX hS hU hW⟩
    have hroom : (ix_rm d r.2.2).frames + 1 ≤ R.frames ∧ 8 + (q.2.2.1 + 11) + (ix_rm d r.2.2).locals ≤ R.locals := by
      unfold ix_rm
      dsimp only
      omega
    have hcs : c0 + k + r.2.2 ≤ R.cells ∧ s0 + 6 * k + 6 * r.2.2 ≤ R.slots := by
      omega
    have hM := hC q hcal
    rcases r2 with r2 | r2
    · have hlk : Cond.methodLink (ix_cn own) idx q.1 ∈ ix_gw := by
        have := ix_W1 r3 h7
        unfold ix_mkw at this
        dsimp only at this
        rw [if_neg (by omega), hy] at this
        exact ix_gwm this rfl
      have hgv : GoodIn ix_gw (wsV (ix_cn own) idx q.1.cls q.1 (ix_wsM (ix_x o) q)) := by
        intro w hw
        unfold wsV at hw
        rcases List.mem_append.mp hw with hw | hw
        · simp only [List.mem_cons, List.not_mem_nil, or_false] at hw
          rcases hw with rfl | rfl | rfl | rfl
          · exact ⟨hlk, good_of_word (ix_gw_good hlk)⟩
          · exact ⟨w2, good_of_word (ix_gw_good w2)⟩
          · exact ⟨w4, good_of_word (ix_gw_good w4)⟩
          · exact ⟨w5, good_of_word (ix_gw_good w5)⟩
        · exact hgin w hw
      exact ⟨_, vx_runV ⟨hx, hb, hml, hown, hts⟩ hM (cwV (ix_z o - 1) hts hgv hpl rfl rfl ⟨rfl, a2.1, a2.2, a1⟩ hroom) ⟨ix_blind, hcellB, hpre⟩ rfl hAl hsz hstk hrest hdg hcs⟩
    · have hlk : va_Nw (.methodLinkNest (ix_cn own) idx q.1 "CryGorge") s := by
        obtain ⟨-, -, hE3, -⟩ := hE
        have := hE3 _ (ix_k_mk _ r3 h7) r2
        unfold ix_mkw at this
        dsimp only at this
        rw [if_pos r2, hy] at this
        exact this
      have hM2 := ix_vxMet hM (fun E s t hxc => by obtain ⟨x, hx9, -⟩ := hxc; exact hst1 (Or.inr r2) x hx9)
      exact ⟨_, ix_vaRun (va_runVN ⟨hx, hb, hml, hown, hts⟩ hM2 ⟨va_cnB (ix_z o - 1) hts hgin hpl rfl rfl hlk (hts _ w5) ⟨a2.1, a2.2, a1⟩ hroom, hts _ w2, hts _ w4⟩ ⟨ix_blind, hcellB, hpre⟩ rfl hAl hsz hstk hrest hdg hcs)⟩
  · rename_i idx he
    rw [he] at hdg hlen hres
    have hn : ix_len o = 3 := by rcases hlen with h1 | h1 <;> first | exact h1.symm | cases h1
    refine ⟨hn, ?_⟩
    rw [hn] at hdg
    dsimp only at hres
    simp only [Bool.and_eq_true, decide_eq_true_eq] at hres
    obtain ⟨r2, r3⟩ := hres
    have r2 : ix_y o = 1 ∨ ix_y o = 3 := by omega
    have hkv := ix_k_v _ r3
    unfold ix_k_vb at hkv
    have har := ix_ar_ok _ r3
    unfold ix_ar at har
    dsimp only at hkv har
    have hn02 : ¬ (ix_y o = 0 ∨ ix_y o = 2) := by omega
    simp only [show ¬ (4 ≤ ix_y o) from by omega, decide_false, Bool.false_or, Bool.and_eq_true, decide_eq_true_eq, if_neg hn02, Bool.or_eq_true] at hkv har
    cases hcal : ix_cal (ix_x o) with
    | none => rw [hcal] at har; cases har
    | some q =>
    rw [hcal] at har
    simp only [Bool.and_eq_true, decide_eq_true_eq, Bool.or_eq_true] at har
    obtain ⟨⟨⟨a1, a2⟩, a4⟩, a5⟩ := har
    obtain ⟨⟨⟨v1, v2⟩, v3⟩, v6⟩ := hkv
    have hy := ix_y0_of hcal
    rw [hy] at v2
    have w3 : Cond.static q.1 ∈ ix_gw := by have := ix_W3 v3; rw [hy] at this; exact ix_gwm this rfl
    have w5 : Cond.initialized q.1.cls ∈ ix_gw := ix_gwm (ix_W5 v2) rfl
    have hlk : Cond.methodLink (ix_cn own) idx q.1 ∈ ix_gw := by
      have := ix_W1 r3 h7
      unfold ix_mkw at this
      dsimp only at this
      rw [if_neg (by omega), hy] at this
      exact ix_gwm this rfl
    have hAl : (vs.map (ix_cv ad)).length = ix_z o := by rw [List.length_map]; exact hvl
    have hpre : ∀ U : State, U.heap = H → s.WarmedH U.vm → ix_Pc D G ad ids lo vs h (vs.map (ix_cv ad)).toArray U := fun U hU hW => ⟨rfl, ix_St.of hP hK hE hX hS hU hW⟩
    have hroom : (ix_rm d r.2.2).frames + 1 ≤ R.frames ∧ 8 + (q.2.2.1 + 11) + (ix_rm d r.2.2).locals ≤ R.locals := by
      unfold ix_rm
      dsimp only
      omega
    have hcs : c0 + k + r.2.2 ≤ R.cells ∧ s0 + 6 * k + 6 * r.2.2 ≤ R.slots := by
      omega
    have hM := hC q hcal
    have hgs : GoodIn ix_gw (ix_wsM (ix_x o) q) → GoodIn ix_gw (va_wsS (ix_cn own) idx q.1 (ix_wsM (ix_x o) q)) := by
      intro hgin w hw
      unfold va_wsS at hw
      rcases List.mem_append.mp hw with hw | hw
      · simp only [List.mem_cons, List.not_mem_nil, or_false] at hw
        rcases hw with rfl | rfl | rfl
        · exact ⟨hlk, good_of_word (ix_gw_good hlk)⟩
        · exact ⟨w3, good_of_word (ix_gw_good w3)⟩
        · exact ⟨w5, good_of_word (ix_gw_good w5)⟩
      · exact hgin w hw
    rcases r2 with r2 | r2
    · have h3 : ¬ ix_y o = 3 := by omega
      simp only [if_neg h3, decide_eq_true_eq] at v6
      have hM2 := ix_vxMet hM (fun E s t hxc => by obtain ⟨x, hx9, -⟩ := hxc; exact hst1 (Or.inl r2) x hx9)
      have hmi : ix_x o < 260 ∨ ix_x o = 900 ∨ ix_x o = 901 := by omega
      exact ⟨_, ix_vaRun (va_runS ⟨hx, hb, hml, hown, hts⟩ hM2 (va_cwS (ix_z o) hts (hgs (ix_gin hcal hmi)) (ix_plain v6) rfl rfl ⟨a2.1, a2.2, a1⟩ hroom) ⟨ix_blind, hpre⟩ rfl hAl hsz hstm hrest hdg hcs)⟩
    · obtain ⟨h3a, h3b⟩ := hst3 r2
      simp only [if_pos r2, decide_eq_true_eq] at v6
      have hM2 := ix_vxMet hM (fun E s t hxc => by obtain ⟨x, hx9, -⟩ := hxc; exact h3a x hx9)
      have hwc := h3b q hcal
      have hpl : ix_wsM (ix_x o) q = Cond.codeWith q.1 q.2.1 q.2.2.1 q.2.2.2 (ix_hh (ix_x o)) :: ix_gw := by
        unfold ix_wsM ix_hw
        rw [if_neg (by omega)]
      have hgin : GoodIn ix_gw (ix_wsM (ix_x o) q) := by
        intro w hw
        rcases List.mem_cons.mp hw with rfl | hw
        · have hg : goodWord (ix_hw (ix_x o) q) = true := by
            unfold ix_hw
            split <;> rfl
          exact ⟨ix_gwm hwc hg, good_of_word hg⟩
        · exact ⟨hw, good_of_word (ix_gw_good hw)⟩
      exact ⟨_, ix_vaRun (vx_runSW ⟨hx, hb, hml, hown, hts⟩ hM2 (vx_cwSW (ix_z o) hts (hgs hgin) hpl rfl rfl ⟨a2.1, a2.2, a1⟩ hroom) ⟨ix_blind, hpre⟩ rfl hAl hsz hstm hrest hdg hcs)⟩
  · cases hic
end IXL
end
section
section IXS
variable {p : Program} {l : Launch} {e : Env} {R : Room} {s : State} {m : MethodId} {args : Array Value} {below : List Frame} {meth : Method} {c : Code} {H : Heap} {locs : List Loc} {k : Nat}
variable {cc : ByteArray} {pc : Nat} {lsA : Array Slot} {ad : Nat → Nat} {o : ix_Op} {own : Nat} {ops : List ix_Op} {D : va_G} {G : ix_G} {ids : List Nat} {dm : Nat → Bool} {lo d c0 s0 : Nat} {h : ix_H} {r : ix_R}
theorem ix_lend (hP : va_P D vwCl (ix_ws G ad ids h) H) (hE : ix_Es ad lo s s.heap) (hX : ix_SX ad lo h s s.heap) (hS : va_S (ix_A lo) s.heap H locs) {t : State} (ht : t.heap = H) (hv : s.vm.Alike t.vm) : ix_Sp D G ad ids lo h t ∧ va_F (ix_A lo) s t :=
  ⟨⟨by rw [ht]; exact hP, by rw [ht]; exact (hX.kept hE.1 hS.2.1).moved hv⟩, hS.F ht⟩
theorem ix_lthrow0 (hl : l.stackTraces = false) (hx : p.tables.exec = Jvm.exec) (hb : c.code = cc) (hml : c.maxLocals = lsA.size) (hown : s.vm.findClass "CryGorge" = some m.cls) (hR : d + 13 ≤ R.frames ∧ 41 * d + 341 ≤ R.locals ∧ c0 + (k + 1) ≤ R.cells ∧ s0 + 6 * (k + 1) ≤ R.slots) (hP : va_P D vwCl (ix_ws G ad ids h) H) (hS : va_S (ix_A lo) s.heap H locs) (hE : ix_Es ad lo s s.heap) (hX : ix_SX ad lo h s s.heap)
    (hno : ∀ x ∈ c.exceptionTable.toList, False) (hlk : meth.locks = false)
    (d0 : decode cc pc = .ok (.new 400, 3)) (d3 : decode cc (pc + 3) = .ok (.dup, 1)) (d4 : decode cc (pc + 4) = .ok (.ldc_w 402, 3)) (d7 : decode cc (pc + 7) = .ok (.invokespecial 404, 3)) (d10 : decode cc (pc + 10) = .ok (.athrow, 1)) :
    W p l e R s m args below meth c H locs (c0 + k) (s0 + 6 * k) (vx_MQ below (ix_Qc D G ad ids lo (.inr 0, h, k + 1)) (ix_XC D G ad ids lo (.inr 0, h, k + 1)) args s (c0 + (k + 1)) (s0 + 6 * (k + 1)) (ix_A lo)) (F0 m pc lsA []) := by
  obtain ⟨e1, e2, e3, e4, e5, e6, ⟨sa, e7⟩, e8, e9, e10, e11, e12⟩ := id hE
  have hw : ∀ w ∈ ix_thw 0, w.before args s = true := fun w hw => by
    have hm : w ∈ ix_thA := List.mem_append_left _ hw
    have hg := List.all_eq_true.mp ix_thA_ok w hm
    simp only [Bool.and_eq_true] at hg
    exact va_Nw.use hg.2 (e12 w hm)
  have hw0 : ∀ w ∈ Cond.classLink "CryGorge" 400 (ix_en 0) :: Cond.initialized (ix_en 0) :: vx_atS "CryGorge" 404 (ix_en 0) ix_nms, vx_ot w = true := fun w hw => by
    have hm : w ∈ ix_thA := List.mem_append_left _ hw
    have hg := List.all_eq_true.mp ix_thA_ok w hm
    simp only [Bool.and_eq_true] at hg
    unfold vx_ot
    rw [hg.2]
    rfl
  refine vx_throwSW hx hb hl (own := "CryGorge") (cls := ix_en 0) (names := ix_nms) (ik := 400) (is := 402) (ic := 404) (A := ix_A lo) hown (by decide +kernel) (by decide +kernel) (hw _ List.mem_cons_self) (hw _ (List.mem_cons_of_mem _ List.mem_cons_self)) e7
    (fun w h9 => hw w (List.mem_cons_of_mem _ (List.mem_cons_of_mem _ h9))) hw0 e5 e6 hS hml.symm d0 d3 d4 d7 d10 (fun x hx => absurd (hno x hx) id) ?_ ?_ ?_ ?_ hlk ?_ hS.2.2 (by omega) (by omega)
  · show 5 < R.frames; omega
  · show 0 + (13 * 3 + 43) ≤ R.locals; omega
  · omega
  · omega
  · intro t hv hz hq
    refine ⟨0, rfl, rfl, ⟨va_P.kept hP (fun j q hj => hq q.1 (hP j q hj).lt), ?_⟩, Nat.le_trans hS.1 hz, fun q h1 h2 => ?_⟩
    · have h1 := (hX.kept hE.1 hS.2.1).moved hv
      refine ⟨h1.1.kept (hq _ ?_), h1.2⟩
      exact Nat.lt_of_lt_of_le (Nat.lt_of_lt_of_le hX.2.2 hE.1) hS.1
    · rw [hq q (Nat.lt_of_lt_of_le h1 hS.1)]
      exact hS.2.1 q h1 h2
end IXS
end
section
section IXT
variable {p : Program} {l : Launch} {e : Env} {R : Room} {s : State} {m₀ : MethodId} {args : Array Value} {below : List Frame} {meth : Method} {c : Code} {W9 : State} {locs : List Loc} {cells slots : Nat}
set_option maxHeartbeats 1000000 in
theorem ix_ctor2 (X : Stand p l e R s m₀ args below meth c W9 locs cells slots) (hexec : p.tables.exec = Jvm.exec) (htr : e.platform.stackTraces = false) {own cls : String} {ic : Nat}
    (hown : s.vm.findClass own = some m₀.cls) (hcls : Bundle.fit cls = true)
    (h : ∀ a ∈ ix_own2 own ic cls, a.before args s = true)
    (hlocs : ∀ x ∈ locs, ∀ cell, s.heap[x.base]? = some cell → cell.vm.isStatics = false)
    {a : Addr} {cX : ClassId} {kX : Class} (hfoundX : s.vm.findClass cls = some cX) (hkX : s.vm.classes[cX]? = some kX) (hcell : W9.heap[a]? = some (freshCell cX kX)) (hnew : s.heap.size ≤ a)
    {msg : Value} (hmsg : msg.isRef = true)
    {g : JFrame} (hg : g.method = m₀) (hsize : g.locals.size = c.maxLocals) (hlocked : g.locked = none) (hentered : g.entered = []) {rest : List Value} (hstack : g.stack = msg :: .ref a :: .ref a :: rest)
    (hd6 : decode c.code g.pc = .ok (.invokespecial ic, 3)) (hd9 : decode c.code (g.pc + 3) = .ok (.athrow, 1)) (hout : ∀ x ∈ c.exceptionTable.toList, covers x (g.pc + 3) = false)
    (hRframes : 5 < R.frames) (hRlocals : 2 * g.monitorRoom + ((Value.ref a :: rest).map fun v => v.category).sum + (13 * 3 + 42) ≤ R.locals) (hlocks : meth.locks = false) :
    ∃ U : State, Steps p.tables e below (W9.setTop g) U ∧ U.status = .running ∧ Ended U below (.threw a) ∧ s.WarmedH U.vm ∧ s.sameButNew ({ U with vm := s.vm } : State) locs cells slots ∧
      ∃ ce, U.heap[a]? = some ce ∧ ce.vm = .none ∧ s.vm.findClass cls = some ce.cls := by
  have howns : e.platform.frameOwnsMonitors = true := by rw [X.admits.platform]
  have hfin : e.platform.finalization = false := by rw [X.admits.platform]
  have hpl : e.platform.magicAccessors = ({} : Platform).magicAccessors := by rw [X.admits.platform]
  have a' : ∀ x, x ∈ ix_own2 own ic cls → x.holds args s none s [] = true := fun x hx => h x hx
  obtain ⟨T, Z0, L, -, Y⟩ := ThrowableC.of_atoms (args := args) howns hfin hpl (fun x hx => h x (by simp [ix_own2, hx]))
  obtain ⟨Z, M, LZ, LM, hnZ⟩ := Init0T.ofS_atoms (args := args) hpl L Y (fun x hx => h x (by simp [ix_own2, hx]))
  obtain ⟨P2, Ps, hlen, L2, hL, hP2m, hlink2, hlink⟩ := Bundle.chainS (args := args) hpl hnZ ["java/lang/Exception"] ix_RT (by decide +kernel) (by decide +kernel) (fun x hx => h x (by simp [ix_own2, hx]))
  obtain ⟨P1, L1, hP1m, hP1s⟩ := PassC.ofS_atoms (args := args) (s := s) hpl (X := cls) (Y := ix_RT) (index := 13) (bytes := prog_30_method_4_code) (Bundle.fit_spec hcls).1 (by decide +kernel) (by decide +kernel) (by decide +kernel) (by decide +kernel) (by decide +kernel) (fun x hx => h x (by simp [ix_own2, hx]))
  have hsup : P1.sup = P2.m := Option.some.inj (hP1s.symm.trans hP2m)
  have hfound : s.vm.findClass cls = some P1.m.cls := findClass_of_methodNamed hP1m
  cases Option.some.inj (hfoundX.symm.trans hfound)
  obtain ⟨c1, kX', hc1, hk, hord, -, -, hn6⟩ := Cond.instantiable_spec (a' (.instantiable cls 6) (by simp [ix_own2]))
  cases Option.some.inj (hc1.symm.trans hfound)
  cases Option.some.inj (hkX.symm.trans hk)
  have hsel0 : selectMethod e.platform s.vm P1.m.cls T.fill0 = .method T.fill0 := by
    obtain ⟨c2, r2, m2, q1, q2, q3, q4, -⟩ := Cond.selects_spec (a' (.selects cls Bundle.tFill0 Bundle.tFill0) (by simp [ix_own2]))
    cases Option.some.inj (q1.symm.trans hfound)
    cases Option.some.inj (q2.symm.trans (State.methodFound?_of_named Y.fill0 (by decide)))
    cases Option.some.inj (q3.symm.trans Y.fill0)
    rw [Launch.admits_selectMethod X.admits]; exact q4
  have hselF : selectMethod e.platform s.vm P1.m.cls T.fill = .method T.fill := by
    obtain ⟨c2, r2, m2, q1, q2, q3, q4, -⟩ := Cond.selects_spec (a' (.selects cls Bundle.tFill Bundle.tFill) (by simp [ix_own2]))
    cases Option.some.inj (q1.symm.trans hfound)
    cases Option.some.inj (q2.symm.trans (State.methodFound?_of_named Y.fill (by decide)))
    cases Option.some.inj (q3.symm.trans Y.fill)
    rw [Launch.admits_selectMethod X.admits]; exact q4
  obtain ⟨cellS0, hcS0, hiss⟩ := Y.statics
  obtain ⟨u0, hu0⟩ := Cond.staticRefV Y.unassigned L.unassignedStatic L.statics hcS0 hiss (a' (.isRef (.static Bundle.tN "UNASSIGNED_STACK" Bundle.steD)) (by simp [ix_own2]))
  obtain ⟨sen, hsen⟩ := Cond.staticRefV Y.sentinel L.sentinelStatic L.statics hcS0 hiss (a' (.isRef (.static Bundle.tN "SUPPRESSED_SENTINEL" Bundle.listD)) (by simp [ix_own2]))
  obtain ⟨ci198, i198, fB, hk198, hg198, ha198, hsB, -, hnB, htB, hffB⟩ := Cond.ownField (t := .object "java/lang/Object") Y.found L.cls (by decide +kernel) (a' (.fieldLink Bundle.tN 198 Bundle.tN "backtrace" "Ljava/lang/Object;") (by simp [ix_own2])) (a' (.lays Bundle.tN Bundle.tN "backtrace" "Ljava/lang/Object;") (by simp [ix_own2])) e.platform hpl
  obtain ⟨cellS, hcS', heS, -, hkeep⟩ := X.same.2.2.2.2.2 T.aS cellS0 hcS0
  have hcellS : W9.heap[T.aS]? = some cellS := hcS'
  have hout' : ∀ i, (⟨T.aS, i⟩ : Loc) ∉ locs := fun i hmem => by
    have := hlocs _ hmem cellS0 hcS0
    rw [hiss] at this; cases this
  have hknownS : cellS.vm ≠ .unknown := by
    rw [heS]; intro hu
    rw [show cellS0.vm = .unknown from hu] at hiss
    cases hiss
  have hneS : T.aS ≠ a := Nat.ne_of_lt (Nat.lt_of_lt_of_le (Array.getElem?_eq_some_iff.mp hcS0).1 hnew)
  obtain ⟨iM, hffM⟩ := Y.msg
  obtain ⟨tyC, dC, hdC, hdnC⟩ := Cond.laysAt hfound hk Y.cause (a' (.lays cls Bundle.tN "cause" "Ljava/lang/Throwable;") (by simp [ix_own2]))
  obtain ⟨tyS, dS, hdS, hdnS⟩ := Cond.laysAt hfound hk Y.stack (a' (.lays cls Bundle.tN "stackTrace" Bundle.steD) (by simp [ix_own2]))
  obtain ⟨tyP, dP, hdP, hdnP⟩ := Cond.laysAt hfound hk Y.supp (a' (.lays cls Bundle.tN "suppressedExceptions" Bundle.listD) (by simp [ix_own2]))
  obtain ⟨tyM, dM, hdM, hdnM⟩ := Cond.laysAt hfound hk hffM (a' (.lays cls Bundle.tN "detailMessage" "Ljava/lang/String;") (by simp [ix_own2]))
  obtain ⟨tyB, dB, hdB, hdnB⟩ := Cond.laysAt hfound hk hffB (a' (.lays cls Bundle.tN "backtrace" "Ljava/lang/Object;") (by simp [ix_own2]))
  have bC := Cond.laysApart hdB hdC hdnB hdnC (by rw [hnB, Y.causeName]; decide)
  have bS := Cond.laysApart hdB hdS hdnB hdnS (by rw [hnB, Y.stackName]; decide)
  have bP := Cond.laysApart hdB hdP hdnB hdnP (by rw [hnB, Y.suppName]; decide)
  have hskip : SkipFacts T e.platform s (fun u => u) u0 ((preparedCellV T.toThrowableT (freshCell P1.m.cls kX) a u0 sen).withEntry W9.cur) :=
    ⟨{ ci198 := ci198, i198 := i198, fBack := fB }, ⟨hk198, hg198, ha198, hsB⟩, by
      have := fresh_default (c := P1.m.cls) tyB
      rw [htB] at this
      simpa [preparedCellV, Cell.setSlot, Cell.withEntry, Array.getElem?_setIfInBounds, bC, bS, bP, bC.symm, bS.symm, bP.symm, defaultValue] using this, fun _ _ => rfl⟩
  obtain ⟨tm, methC, cdC, kC, vm₁, hnC, -, -, -, -, -, -, -, hW₁, st1⟩ := Steps.initColdS (tb := p.tables) (e := e) (below := below) (s := s) (U := W9) X.here hexec X.warmed hpl hown (t := Bundle.initS cls) rfl rfl (Bundle.fit_spec hcls).2
    (a' (.methodLink own ic (Bundle.initS cls)) (by simp [ix_own2])) (h (.instanceMethod (Bundle.initS cls)) (by simp [ix_own2, Bundle.passSAtoms])) (bytes := prog_30_method_4_code) (maxL := 2) (h (.code (Bundle.initS cls) prog_30_method_4_code 2 none) (by simp [ix_own2, Bundle.passSAtoms]))
    (f := g) hg (a := a) (msg := msg) (rest := .ref a :: rest) hstack hd6
  cases Option.some.inj (hnC.symm.trans hP1m)
  have X₁ := X.noted hW₁
  obtain ⟨vm₂, X₂, st2⟩ := X₁.ctorMessageOffV hexec (g := { g with stack := .ref a :: rest }) hg hsize T L Z LZ M LM (P1 :: P2 :: Ps)
    (fun P hP => by
      rcases List.mem_cons.mp hP with rfl | hP
      · exact L1
      · rcases List.mem_cons.mp hP with rfl | hP
        · exact L2
        · exact hL P hP) ⟨hsup, hlink2, hlink⟩ (u0 := u0) (sen := sen) (self := a) hmsg (cell := freshCell P1.m.cls kX) (cellS := cellS)
    hcell (fun _ => by simp) (by simp) rfl rfl hsel0 hselF hcellS hneS hknownS (by rw [hkeep _ (hout' _)]; exact hu0) (by rw [hkeep _ (hout' _)]; exact hsen)
    (Takes.of_laid hk hord tyC (by rw [Y.causeType]; rfl)) (Takes.of_laid hk hord tyS (by rw [Y.stackType]; exact fits_refV_array _ u0)) (Takes.of_laid hk hord tyP (by rw [Y.suppType]; exact fits_refV_object _ sen))
    (Takes.of_laid hk hord tyM (by rw [Y.msgType]; exact fits_refV_object _ ⟨msg, hmsg⟩)) Y.objLocals hskip htr [] hd6
    (by simp only [List.length_cons, hlen, List.length_nil]; omega) (by simp only [List.length_cons, hlen, List.length_nil]; exact hRlocals)
  obtain ⟨hwalk, hrun, hended, hWU, hsame⟩ := X₂.athrowLeaves hexec (g := { g with stack := .ref a :: rest, pc := g.pc + 3 }) hg hlocked hentered hout (a := a) (rest := rest) rfl hd9
  have hlt : a < ((W9.setVm vm₁).setVm vm₂).heap.size := (Array.getElem?_eq_some_iff.mp hcell).1
  have hU := heapAt_setCell_self (s := (W9.setVm vm₁).setVm vm₂) (plainBareV T.toThrowableT (freshCell P1.m.cls kX) a u0 sen msg) hlt
  refine ⟨_, st1 _ (fun acts => ?_), hrun, hended, hWU, hsame.weaken (fun y hy hlt' => ?_) (Nat.le_refl _) (Nat.le_refl _), _, hU, rfl, hfound⟩
  · rw [doInvoke_state]
    exact st2 _ hwalk
  · rcases List.mem_append.mp hy with h1 | h1
    · exact h1
    · exfalso
      have hb : y.base = a := by
        simp only [List.mem_cons, List.not_mem_nil, or_false] at h1
        rcases h1 with rfl | rfl | rfl | rfl | rfl <;> rfl
      rw [hb] at hlt'
      exact Nat.not_lt.mpr hnew hlt'
end IXT
end
section
section IXU
variable {p : Program} {l : Launch} {e : Env} {R : Room} {s : State} {m : MethodId} {args : Array Value} {below : List Frame} {meth : Method} {c : Code} {H : Heap} {locs : List Loc} {cells slots : Nat} {free : Addr → Prop} {ls : Array Slot} {rest : List Value}
variable {Qc : Array Value → State → Outcome → State → Prop} {XC : String → State → State → Prop}
theorem ix_ownh {args : Array Value} {s : State} {own cls : String} {ic : Nat} (h1 : ∀ w ∈ (ix_own2 own ic cls).filter vx_no, w.before args s = true) (rU : (Cond.isRef (.static Bundle.tN "UNASSIGNED_STACK" Bundle.steD)).before args s = true) (rN : (Cond.isRef (.static Bundle.tN "SUPPRESSED_SENTINEL" Bundle.listD)).before args s = true)
    (lU : (Cond.laysStatic Bundle.tN "UNASSIGNED_STACK" Bundle.steD).before args s = true) (lN : (Cond.laysStatic Bundle.tN "SUPPRESSED_SENTINEL" Bundle.listD).before args s = true) : ∀ w ∈ ix_own2 own ic cls, w.before args s = true := by
  intro w hw
  by_cases e1 : w = .isRef (.static Bundle.tN "UNASSIGNED_STACK" Bundle.steD)
  · rw [e1]; exact rU
  · by_cases e2 : w = .isRef (.static Bundle.tN "SUPPRESSED_SENTINEL" Bundle.listD)
    · rw [e2]; exact rN
    · by_cases e3 : w = .laysStatic Bundle.tN "UNASSIGNED_STACK" Bundle.steD
      · rw [e3]; exact lU
      · by_cases e4 : w = .laysStatic Bundle.tN "SUPPRESSED_SENTINEL" Bundle.listD
        · rw [e4]; exact lN
        · exact h1 w (List.mem_filter.mpr ⟨hw, by unfold vx_no; rw [decide_eq_true e1, decide_eq_true e2, decide_eq_true e3, decide_eq_true e4]; rfl⟩)
theorem ix_throwW {cc : ByteArray} {pc : Nat} (hexec : p.tables.exec = Jvm.exec) (hb : c.code = cc) (hl : l.stackTraces = false) {own cls text : String} {ik is ic mc ms sa : Nat} {A : Nat → Prop}
    (hown : s.vm.findClass own = some m.cls) (hcls : Bundle.fit cls = true)
    (hk : (Cond.classLink own ik cls).before args s = true) (hini : (Cond.initialized cls).before args s = true) (hstr : vk_R own is text sa s) (hat : ∀ w ∈ (ix_own2 own ic cls).filter vx_no, w.before args s = true)
    (hgood : ∀ w ∈ Cond.classLink own ik cls :: Cond.initialized cls :: (ix_own2 own ic cls).filter vx_no, vx_ot w = true)
    (hU : vx_Zq Bundle.tN "UNASSIGNED_STACK" Bundle.steD A s s.heap) (hN : vx_Zq Bundle.tN "SUPPRESSED_SENTINEL" Bundle.listD A s s.heap) (hS : va_S A s.heap H locs) (hsize : ls.size = c.maxLocals)
    (d0 : decode cc pc = .ok (.new ik, 3)) (d3 : decode cc (pc + 3) = .ok (.dup, 1)) (d4 : decode cc (pc + 4) = .ok (.ldc_w is, 3)) (d7 : decode cc (pc + 7) = .ok (.invokespecial ic, 3)) (d10 : decode cc (pc + 10) = .ok (.athrow, 1))
    (hout : ∀ x ∈ c.exceptionTable.toList, covers x (pc + 10) = false)
    (hRframes : 5 < R.frames) (hRlocals : (rest.map fun v => v.category).sum + (13 * 3 + 43) ≤ R.locals) (hRcells : cells + 1 ≤ R.cells) (hRslots : slots + 6 ≤ R.slots) (hlocks : meth.locks = false)
    (hx : ∀ t : State, s.vm.Alike t.vm → H.size ≤ t.heap.size → (∀ q : Nat, q < H.size → t.heap[q]? = H[q]?) → XC cls s t)
    (hf : ∀ z ∈ locs, free z.base) (hc : cells + 1 ≤ mc) (hs : slots + 6 ≤ ms) :
    W p l e R s m args below meth c H locs cells slots (vx_MQ below Qc XC args s mc ms free) (F0 m pc ls rest) := by
  intro T hT X
  have htr : e.platform.stackTraces = false := (show e.platform.stackTraces = l.stackTraces by rw [X.admits.platform]).trans hl
  have Y := vx_rebase X (R' := { frames := R.frames, locals := R.locals, cells := 1, slots := 6 }) (Nat.le_refl _) (Nat.le_refl _) hRcells hRslots
  obtain ⟨s', hA⟩ : ∃ z, z = (T.setVm s.vm).setFrames (.invoking m args :: below) := ⟨_, rfl⟩
  rw [← hA] at Y
  have hvm : s'.vm = s.vm := by rw [hA]; rfl
  have hhp : s'.heap = H := by rw [hA]; exact hT
  have hW0 : s.WarmedH s'.vm := by rw [hvm]; exact State.WarmedH.refl s
  have hat' : ∀ w ∈ (ix_own2 own ic cls).filter vx_no, w.before args s' = true := fun w hw => vx_ot_at hW0 hvm.symm (hgood w (List.mem_cons_of_mem _ (List.mem_cons_of_mem _ hw))) (hat w hw)
  have hk' : (Cond.classLink own ik cls).before args s' = true := vx_ot_at hW0 hvm.symm (hgood _ List.mem_cons_self) hk
  have hini' : (Cond.initialized cls).before args s' = true := vx_ot_at hW0 hvm.symm (hgood _ (List.mem_cons_of_mem _ List.mem_cons_self)) hini
  have hU' : vx_Zq Bundle.tN "UNASSIGNED_STACK" Bundle.steD A s' s'.heap := by rw [hhp]; exact vx_Zq.moved hW0.alike (hU.kept hS.2.1)
  have hN' : vx_Zq Bundle.tN "SUPPRESSED_SENTINEL" Bundle.listD A s' s'.heap := by rw [hhp]; exact vx_Zq.moved hW0.alike (hN.kept hS.2.1)
  have h : ∀ w ∈ ix_own2 own ic cls, w.before args s' = true := ix_ownh hat' (vx_isRefq hU'.1) (vx_isRefq hN'.1) hU'.2.word hN'.2.word
  have hown' : s'.vm.findClass own = some m.cls := by rw [hvm]; exact hown
  have hins : (Cond.instantiable cls 6).before args s' = true := h _ (by simp [ix_own2])
  obtain ⟨vm₁, cX, kX, hfX, hkX, -, -, X₁, st1⟩ := Y.newCold hexec (own := own) (C := cls) (index := ik) (n := 6) hown' hk' hins hini'
    (g := F0 m pc ls rest) rfl (by rw [hb]; exact d0) (Nat.le_refl _) (Nat.le_refl _)
  generalize hT1 : (T.setVm vm₁).pushCell { cls := cX, slots := kX.instanceTypes.map defaultValue, vm := .none } = T1 at X₁ st1
  have hcat : (Value.ref T.heap.size).category = 1 := rfl
  have hcellA : T1.heap[T.heap.size]? = some (freshCell cX kX) := by rw [← hT1]; exact State.heap_pushCell_size _ _
  have d3' : decode c.code (pc + 3) = .ok (.dup, 1) := by rw [hb]; exact d3
  have d4' : decode c.code (pc + 4) = .ok (.ldc_w is, 3) := by rw [hb]; exact d4
  have hstr' : vk_R own is text sa s' := vk_R.warm hW0 hstr
  obtain ⟨U, hsteps, hrun, hend, hW, hsame, ce, hce, hcev, hcecl⟩ := ix_ctor2 X₁ hexec htr (own := own) (cls := cls) (ic := ic) hown' hcls h (fun x hx => nomatch hx) hfX hkX hcellA (by rw [hhp, hT]; exact Nat.le_refl _) (msg := .ref sa) rfl
    (g := { method := m, pc := pc + 7, locals := ls, stack := .ref sa :: .ref T.heap.size :: .ref T.heap.size :: rest, locked := none }) rfl hsize rfl rfl (rest := rest) rfl
    (by rw [hb]; exact d7) (by rw [hb]; exact d10) hout hRframes (by simp only [List.map_cons, List.sum_cons, hcat]; show 2 * 0 + (1 + (rest.map fun v => v.category).sum) + (13 * 3 + 42) ≤ R.locals; omega) hlocks
  obtain ⟨f1, f2⟩ := vx_frame hsame
  rw [hhp] at f1 f2
  have hWs : s.WarmedH U.vm := State.WarmedH.trans hW0 hW
  have hcl : s.vm.findClass cls = some ce.cls := by
    rw [hvm] at hcecl
    exact hcecl
  have hall : s.sameButNew ({ U with vm := s.vm } : State) locs mc ms := by
    subst hA
    obtain ⟨e1, e2⟩ := hsame
    rw [State.setFrames_setFrames] at e1
    have h2 : (T.setVm s.vm).sameButNew ({ U with vm := s.vm } : State) [] (0 + 1) (0 + 6) := ⟨e1, e2⟩
    have h3 := X.same.trans h2
    rw [List.append_nil] at h3
    exact h3.mono hc hs
  refine ⟨U, ?_, .threw T.heap.size, hrun, hend, Or.inr ⟨T.heap.size, rfl, cls, ce, locs, hx U hWs.alike f1 (fun q hq => f2 q hq (fun z hz => nomatch hz)), hce, hcev, hcl, hWs, hall, hf⟩⟩
  refine st1 _ ?_
  show Steps p.tables e below (T1.setTop { method := m, pc := pc + 3, locals := ls, stack := .ref T.heap.size :: rest, locked := none }) _
  jvm_step X₁.here [X₁.here.top, hexec, d3', Value.category]
  exact X₁.ldcStringW hexec (own := own) (text := text) (index := is) (a := sa) hown' hstr'.1 hstr'.2
    (g := { method := m, pc := pc + 4, locals := ls, stack := .ref T.heap.size :: .ref T.heap.size :: rest, locked := none }) rfl d4' _ hsteps
end IXU
section IXV
variable {p : Program} {l : Launch} {e : Env} {R : Room} {s : State} {m : MethodId} {args : Array Value} {below : List Frame} {meth : Method} {c : Code} {H : Heap} {locs : List Loc} {k : Nat}
variable {cc : ByteArray} {pc : Nat} {lsA : Array Slot} {ad : Nat → Nat} {D : va_G} {G : ix_G} {ids : List Nat} {lo d c0 s0 : Nat} {h : ix_H}
theorem ix_lthrow1 (hl : l.stackTraces = false) (hx : p.tables.exec = Jvm.exec) (hb : c.code = cc) (hml : c.maxLocals = lsA.size) (hown : s.vm.findClass "CryGorge" = some m.cls) (hR : d + 13 ≤ R.frames ∧ 41 * d + 341 ≤ R.locals ∧ c0 + (k + 1) ≤ R.cells ∧ s0 + 6 * (k + 1) ≤ R.slots) (hP : va_P D vwCl (ix_ws G ad ids h) H) (hS : va_S (ix_A lo) s.heap H locs) (hE : ix_Es ad lo s s.heap) (hX : ix_SX ad lo h s s.heap)
    (hno : ∀ x ∈ c.exceptionTable.toList, False) (hlk : meth.locks = false)
    (d0 : decode cc pc = .ok (.new 413, 3)) (d3 : decode cc (pc + 3) = .ok (.dup, 1)) (d4 : decode cc (pc + 4) = .ok (.ldc_w 415, 3)) (d7 : decode cc (pc + 7) = .ok (.invokespecial 417, 3)) (d10 : decode cc (pc + 10) = .ok (.athrow, 1)) :
    W p l e R s m args below meth c H locs (c0 + k) (s0 + 6 * k) (vx_MQ below (ix_Qc D G ad ids lo (.inr 1, h, k + 1)) (ix_XC D G ad ids lo (.inr 1, h, k + 1)) args s (c0 + (k + 1)) (s0 + 6 * (k + 1)) (ix_A lo)) (F0 m pc lsA []) := by
  obtain ⟨e1, e2, e3, e4, e5, e6, e7, ⟨sa, e8⟩, e9, e10, e11, e12⟩ := id hE
  have hw : ∀ w ∈ ix_thw 1, w.before args s = true := fun w hw => by
    have hm : w ∈ ix_thA := List.mem_append_right _ hw
    have hg := List.all_eq_true.mp ix_thA_ok w hm
    simp only [Bool.and_eq_true] at hg
    exact va_Nw.use hg.2 (e12 w hm)
  have hw0 : ∀ w ∈ Cond.classLink "CryGorge" 413 (ix_en 1) :: Cond.initialized (ix_en 1) :: (ix_own2 "CryGorge" 417 (ix_en 1)).filter vx_no, vx_ot w = true := fun w hw => by
    have hm : w ∈ ix_thA := List.mem_append_right _ hw
    have hg := List.all_eq_true.mp ix_thA_ok w hm
    simp only [Bool.and_eq_true] at hg
    unfold vx_ot
    rw [hg.2]
    rfl
  refine ix_throwW hx hb hl (own := "CryGorge") (cls := ix_en 1) (ik := 413) (is := 415) (ic := 417) (A := ix_A lo) hown (by decide +kernel) (hw _ List.mem_cons_self) (hw _ (List.mem_cons_of_mem _ List.mem_cons_self)) e8
    (fun w h9 => hw w (List.mem_cons_of_mem _ (List.mem_cons_of_mem _ h9))) hw0 e5 e6 hS hml.symm d0 d3 d4 d7 d10 (fun x hx => absurd (hno x hx) id) ?_ ?_ ?_ ?_ hlk ?_ hS.2.2 (by omega) (by omega)
  · show 5 < R.frames; omega
  · show 0 + (13 * 3 + 43) ≤ R.locals; omega
  · omega
  · omega
  · intro t hv hz hq
    refine ⟨1, rfl, rfl, ⟨va_P.kept hP (fun j q hj => hq q.1 (hP j q hj).lt), ?_⟩, Nat.le_trans hS.1 hz, fun q h1 h2 => ?_⟩
    · have h1 := (hX.kept hE.1 hS.2.1).moved hv
      refine ⟨h1.1.kept (hq _ ?_), h1.2⟩
      exact Nat.lt_of_lt_of_le (Nat.lt_of_lt_of_le hX.2.2 hE.1) hS.1
    · rw [hq q (Nat.lt_of_lt_of_le h1 hS.1)]
      exact hS.2.1 q h1 h2
end IXV
end
section
theorem ix_cks_ok : ∀ e ∈ ix_cks, Cond.constant (ix_cn e.1) e.2.1 e.2.2 ∈ tables_1 := by decide +kernel
theorem ix_acK : ∀ e ∈ ix_mlk, e.2.2.2.1 = 7 → (e.1, e.2.1) ∈ ix_acS := by decide +kernel
theorem ix_acN : Cond.native arraycopyName ∈ tables_1 ∧ Cond.static arraycopyName ∈ tables_1 := by decide +kernel
theorem ix_acI : "java/lang/System" ∈ ix_inS := by decide +kernel
theorem ix_mathS3 : Cond.static Lib.Math.max.name ∈ tables_1 ∧ Cond.static Lib.Math.min.name ∈ tables_1 ∧ Cond.static Lib.Math.abs.name ∈ tables_1 := by decide +kernel
theorem ix_mathS (k : Nat) : Cond.static (ix_mn k) ∈ tables_1 := by
  unfold ix_mn
  split
  · exact ix_mathS3.1
  · split
    · exact ix_mathS3.2.1
    · exact ix_mathS3.2.2
theorem ix_mathI : "java/lang/Math" ∈ ix_inS := by decide +kernel
theorem ix_mathC : Cond.code Lib.Math.max.name Lib.Math.max.code 2 (some .int) ∈ tables_1 ∧ Cond.code Lib.Math.min.name Lib.Math.min.code 2 (some .int) ∈ tables_1 ∧ Cond.code Lib.Math.abs.name Lib.Math.abs.code 1 (some .int) ∈ tables_1 := by decide +kernel
theorem ix_mmK : ∀ e ∈ ix_mlk, 4 ≤ e.2.2.2.1 → e.2.2.2.1 ≤ 6 → (e.1, e.2.1, e.2.2.2.1) ∈ ix_mmS := by decide +kernel
theorem ix_cn11 : ix_cn 11 = "CryGorge" := by decide +kernel
theorem ix_tab_h11 : ∀ M ∈ ix_tab, ix_mc M = 11 → ix_mh M = [] := by decide +kernel
theorem ix_tab_len : ix_tab.length = 286 := by decide +kernel
theorem ix_hwl2 {mi : Nat} {q : ix_Q4} (h : ix_cal mi = some q) (h1 : 260 ≤ mi) (h2 : mi < 286) : ix_hw mi q ∈ lw_tbl := by
  by_cases e260 : mi = 260
  · subst e260; cases h; exact cW_260
  by_cases e261 : mi = 261
  · subst e261; cases h; exact cW_261
  by_cases e262 : mi = 262
  · subst e262; cases h; exact cW_262
  by_cases e263 : mi = 263
  · subst e263; cases h; exact cW_263
  by_cases e264 : mi = 264
  · subst e264; cases h; exact cW_264
  by_cases e265 : mi = 265
  · subst e265; cases h; exact cW_265
  by_cases e266 : mi = 266
  · subst e266; cases h; exact cW_266
  by_cases e267 : mi = 267
  · subst e267; cases h; exact cW_267
  by_cases e268 : mi = 268
  · subst e268; cases h; exact cW_268
  by_cases e269 : mi = 269
  · subst e269; cases h; exact cW_269
  by_cases e270 : mi = 270
  · subst e270; cases h; exact cW_270
  by_cases e271 : mi = 271
  · subst e271; cases h; exact cW_271
  by_cases e272 : mi = 272
  · subst e272; cases h; exact cW_272
  by_cases e273 : mi = 273
  · subst e273; cases h; exact cW_273
  by_cases e274 : mi = 274
  · subst e274; cases h; exact cW_274
  by_cases e275 : mi = 275
  · subst e275; cases h; exact cW_275
  by_cases e276 : mi = 276
  · subst e276; cases h; exact cW_276
  by_cases e277 : mi = 277
  · subst e277; cases h; exact cW_277
  by_cases e278 : mi = 278
  · subst e278; cases h; exact cW_278
  by_cases e279 : mi = 279
  · subst e279; cases h; exact cW_279
  by_cases e280 : mi = 280
  · subst e280; cases h; exact cW_280
  by_cases e281 : mi = 281
  · subst e281; cases h; exact cW_281
  by_cases e282 : mi = 282
  · subst e282; cases h; exact cW_282
  by_cases e283 : mi = 283
  · subst e283; cases h; exact cW_283
  by_cases e284 : mi = 284
  · subst e284; cases h; exact cW_284
  by_cases e285 : mi = 285
  · subst e285; cases h; exact cW_285
  exfalso
  omega
theorem ix_hwA {mi : Nat} {q : ix_Q4} (hq : ix_cal mi = some q) : ix_hw mi q ∈ lw_tbl := by
  by_cases h260 : mi < 260 ∨ mi = 900 ∨ mi = 901
  · exact ix_hwl hq h260
  · have hxx : mi < 286 := by
      rcases Nat.lt_or_ge mi 286 with z | z
      · exact z
      · exfalso
        unfold ix_cal at hq
        rw [List.getElem?_eq_none (by rw [ix_tab_len]; exact z)] at hq
        dsimp only at hq
        rw [if_neg (by omega), if_neg (by omega)] at hq
        cases hq
    exact ix_hwl2 hq (by omega) hxx
theorem ix_Es.str {ad : Nat → Nat} {lo : Nat} {U : State} {H : Heap} (h : ix_Es ad lo U H) {own i x : Nat} (hm : (own, i, x) ∈ ix_sks) : ∃ tx : String, vk_R (ix_cn own) i tx (ad x) U := by
  obtain ⟨-, -, -, h4, -⟩ := h
  have h5 := h4 (own, i, x) hm
  dsimp only at h5
  exact h5
section IXM
variable {l : Launch} {D : va_G} {G : ix_G} {ad : Nat → Nat} {ids : List Nat} {dm : Nat → Bool} {lo d c0 s0 : Nat} {M : ix_M} {call : Nat → List Value → ix_H → Option ix_R}
variable {p : Program} {e : Env} {R : Room} {s : State} {m : MethodId} {args : Array Value} {below : List Frame} {meth : Method} {c : Code} {r : ix_R}
def ix_Hc (own : Nat) (s : State) (args : Array Value) (c : Code) (M : ix_M) : Prop := ∀ (o : ix_Op) (x : Nat) (e : ix_Hd), o ∈ ix_mo M → ix_find (ix_mh M) (ix_pc o) x = some e →
  ∃ (name : String) (pre : List ExceptionTableEntry) (z : ExceptionTableEntry) (suf : List ExceptionTableEntry), c.exceptionTable.toList = pre ++ z :: suf ∧
    (∀ z' ∈ pre, covers z' (ix_pc o) = false ∨ (z'.catchType ≠ 0 ∧ ∃ nm : String, (Cond.classLink (ix_cn own) z'.catchType nm).before args s = true ∧ va_Nc (ix_en x) nm s)) ∧ covers z (ix_pc o) = true ∧ z.catchType ≠ 0 ∧
    (Cond.classLink (ix_cn own) z.catchType name).before args s = true ∧ (Cond.castable (ix_en x) name).before args s = true ∧
    ∃ (oh : ix_Op) (i0 : Nat), (ix_mo M)[i0]? = some oh ∧ ix_pc oh = z.handlerPc ∧ ((∃ n : Fin 4, ix_ins oh = .astore_n n ∧ (n : Nat) = e.2.2.2.2) ∨ ix_ins oh = .astore e.2.2.2.2) ∧ e.2.2.2.1 = i0 + 1
theorem ix_run_ok (hok : ix_okm M = true) (hokr : ix_okr M = true) (hM11 : ix_mc M = 11 → ix_mh M = []) (hcall : ∀ mi vs h r, call mi vs h = some r → ix_Ct D G ad ids lo l d mi vs h r) (hl : l.stackTraces = false) (hF : ix_Fx ad ids dm lo)
    (hR : d + 13 ≤ R.frames ∧ 41 * d + 341 ≤ R.locals ∧ c0 + r.2.2 ≤ R.cells ∧ s0 + 6 * r.2.2 ≤ R.slots) (hx : p.tables.exec = Jvm.exec) (hb : c.code = ix_mb M) (hml : c.maxLocals = ix_ml M) (hown : s.vm.findClass (ix_cn (ix_mc M)) = some m.cls) (hts : ∀ w ∈ ix_gw, w.before args s = true) (hret : meth.sig.returnType = ix_mr M) (hlk : meth.locks = false)
    (hK : va_K D vwCl (ix_tys G) s) (hE : ix_Es ad lo s s.heap) (hno : ix_mh M = [] → ∀ x ∈ c.exceptionTable.toList, False) (hcat : ix_Hc (ix_mc M) s args c M) :
    ∀ (g i : Nat) (ls st : List Value) (h : ix_H) (k : Nat), ix_run dm call (ix_mo M) (ix_mh M) g i ls st h k = some r → ∀ o : ix_Op, (ix_mo M)[i]? = some o → ∀ (H : Heap) (locs : List Loc) (lsA : Array Slot), ix_Lh ad lsA (ix_ml M) ls → va_P D vwCl (ix_ws G ad ids h) H → ix_SX ad lo h s s.heap → va_S (ix_A lo) s.heap H locs →
      W p l e R s m args below meth c H locs (c0 + k) (s0 + 6 * k) (vx_MQ below (ix_Qc D G ad ids lo r) (ix_XC D G ad ids lo r) args s (c0 + r.2.2) (s0 + 6 * r.2.2) (ix_A lo)) (F0 m (ix_pc o) lsA (st.map (ix_cv ad))) := by
  unfold ix_okm at hok
  simp only [Bool.and_eq_true, decide_eq_true_eq] at hok
  obtain ⟨⟨⟨⟨⟨ok1, ok2⟩, ok3⟩, ok4⟩, ok5⟩, ok6⟩ := hok
  obtain ⟨hE1, hE2, hE3, hE4, hE5, hE6, hE7, hE8, hE9, hE10, hE11, hE12⟩ := id hE
  have hco : ∀ (i : Nat) (v : Int32), (ix_mc M, i, v) ∈ ix_cks → (Jvm.Cond.constant (ix_cn (ix_mc M)) i v).before args s = true := fun i v hm => hts _ (ix_gwm (ix_tbl (ix_cks_ok _ hm)) rfl)
  have hst : ∀ (i x : Nat), (ix_mc M, i, x) ∈ ix_sks → ∃ tx : String, vk_R (ix_cn (ix_mc M)) i tx (ad x) s := fun i x hm => ix_Es.str hE hm
  have hac : ∀ i, (ix_mc M, i, 0, 7, 5) ∈ ix_mlk → (Cond.methodLink (ix_cn (ix_mc M)) i arraycopyName).before args s = true ∧ (Cond.native arraycopyName).before args s = true ∧ (Cond.static arraycopyName).before args s = true ∧ (Cond.initialized "java/lang/System").before args s = true := fun i hm =>
    ⟨hts _ (ix_gwm (ix_tbl (ix_sub_ok _ _ ix_s9 _ (List.mem_map.mpr ⟨(ix_mc M, i), ix_acK _ hm rfl, rfl⟩))) rfl), hts _ (ix_gwm (ix_tbl ix_acN.1) rfl), hts _ (ix_gwm (ix_tbl ix_acN.2) rfl), hts _ (ix_gwm (ix_W5 ix_acI) rfl)⟩
  have hR12 : 12 ≤ R.frames ∧ 300 ≤ R.locals := by omega
  have hmm : ∀ (i k : Nat), (ix_mc M, i, k) ∈ ix_mmS → (Cond.methodLink (ix_cn (ix_mc M)) i (ix_mn k)).before args s = true := fun i k hm => hts _ (ix_gwm (ix_tbl (ix_sub_ok _ _ ix_s10 _ (List.mem_map.mpr ⟨(ix_mc M, i, k), hm, rfl⟩))) rfl)
  have hmS : ∀ k, (Cond.static (ix_mn k)).before args s = true := fun k => hts _ (ix_gwm (ix_tbl (ix_mathS k)) rfl)
  have hmI : (Cond.initialized "java/lang/Math").before args s = true := hts _ (ix_gwm (ix_W5 ix_mathI) rfl)
  have hm4 := hts _ (ix_gwm (ix_tbl ix_mathC.1) rfl)
  have hm5 := hts _ (ix_gwm (ix_tbl ix_mathC.2.1) rfl)
  have hm6 := hts _ (ix_gwm (ix_tbl ix_mathC.2.2) rfl)
  intro g
  induction g with
  | zero => intro i ls st h k hr; rw [ix_run] at hr; cases hr
  | succ g ih =>
    intro i ls st h k hr o ho H locs lsA hL hP hX hS
    obtain ⟨o9, ho9, hc⟩ := ix_run_cases hr
    cases Option.some.inj (ho.symm.trans ho9)
    have hmono := ix_run_mono _ _ _ _ _ _ _ hr
    have hok1 := List.all_eq_true.mp ok1 o (List.mem_of_getElem? ho)
    unfold ix_ok1 at hok1
    simp only [Bool.and_eq_true, Bool.or_eq_true, decide_eq_true_eq] at hok1
    obtain ⟨⟨hdg, hlen⟩, hres⟩ := hok1
    have nx : ∀ {ls' st' : List Value} {h' : ix_H} {k' : Nat}, ix_run dm call (ix_mo M) (ix_mh M) g (i + 1) ls' st' h' k' = some r → ∀ (H' : Heap) (locs' : List Loc) (lsA' : Array Slot), ix_Lh ad lsA' (ix_ml M) ls' → va_P D vwCl (ix_ws G ad ids h') H' → ix_SX ad lo h' s s.heap → va_S (ix_A lo) s.heap H' locs' →
        W p l e R s m args below meth c H' locs' (c0 + k') (s0 + 6 * k') (vx_MQ below (ix_Qc D G ad ids lo r) (ix_XC D G ad ids lo r) args s (c0 + r.2.2) (s0 + 6 * r.2.2) (ix_A lo)) (F0 m (ix_pc o + ix_len o) lsA' (st'.map (ix_cv ad))) := by
      intro ls' st' h' k' hr' H' locs' lsA' q1 q2 q3 q4
      obtain ⟨o', ho'⟩ := ix_run_some hr'
      rw [← ix_chain_at _ ok2 i o o' ho ho']
      exact ih (i + 1) ls' st' h' k' hr' o' ho' H' locs' lsA' q1 q2 q3 q4
    rcases hc with ⟨q, h1, h2⟩ | ⟨q, h1, h2⟩ | ⟨q, h1, h2⟩ | ⟨q, h1, h2⟩ | ⟨q, h1, h2⟩ | ⟨h1, h7, hz, hsum, hrcv, h', k', h2⟩ | ⟨v, h1, h2, h3, h4⟩ | ⟨h1, h2, h4⟩ | ⟨ik, h1, h2, h3, h4⟩
    · exact ix_l1 hx hb hown hco hst hdg hlen hres hL h1 (fun lsA' hL' => nx h2 H locs lsA' hL' hP hX hS)
    · exact ix_l2 hx hb hdg hlen hL h1 (fun lsA' hL' => nx h2 H locs lsA' hL' hP hX hS)
    · exact ix_l3 hx hb (hml.trans hL.size.symm) hown hR12 (by omega) hmm hmS hmI hm4 hm5 hm6 ix_mmK hdg hlen hres hL h1 (fun lsA' hL' => nx h2 H locs lsA' hL' hP hX hS)
    · refine ix_lb hx hb hdg hlen rfl hres h1 (fun pc' hpc => ?_)
      rcases hpc with ⟨e1, rfl⟩ | ⟨o', ho', rfl⟩
      · rw [e1] at h2
        exact nx h2 H locs lsA hL hP hX hS
      · exact ih q.1 ls q.2 h k h2 o' ho' H locs lsA hL hP hX hS
    · refine ix_lh hx hb (hml.trans hL.size.symm) hts hE2 hown hK hac hR12 hF hP hS hE1 hX hdg hlen hres h1 (fun H1 locs1 q1 q2 q3 => ?_)
      exact nx h2 H1 locs1 lsA hL q1 (hX.same q3.1 q3.2) q2
    · rcases h2 with ⟨v, h3, h4⟩ | ⟨x, hy0, h3, h4⟩
      · have hm2 := ix_run_mono _ _ _ _ _ _ _ h4
        obtain ⟨hn3, a9, hrun⟩ := ix_lcall (r := (.inl v, h', k')) hx hb hml hL.size hts hown hK hR hm2 hF hP hS hE hX hdg hlen hres h1 h7 hz hsum hrcv (hcall _ _ _ _ h3)
          (fun h39 => ⟨fun v9 hv9 => (by cases hv9), fun q hq => ix_hwA hq⟩) (fun _ v9 hv9 => by cases hv9)
        refine ix_aft hE hrun hS (fun v1 H1 locs1 e1 q1 q2 q3 => ?_) (fun x1 q9 ce H1 locs1 e1 => by cases e1)
        cases e1
        have := nx h4 H1 locs1 lsA hL q1 q2 q3
        rw [hn3] at this
        have e5 : (v.map (ix_cv ad)).toList ++ (st.drop (ix_z o)).map (ix_cv ad) = (v.toList ++ st.drop (ix_z o)).map (ix_cv ad) := by cases v <;> simp
        rw [e5]
        rw [Nat.mul_add, ← Nat.add_assoc, ← Nat.add_assoc] at this
        exact this
      · have hkk : k + k' ≤ r.2.2 := by
          rcases h4 with ⟨-, h4⟩ | ⟨e9, -, -, h4⟩
          · rw [h4]; exact Nat.le_refl _
          · exact ix_run_mono _ _ _ _ _ _ _ h4
        obtain ⟨hn3, a9, hrun⟩ := ix_lcall (r := (.inr x, h', k')) hx hb hml hL.size hts hown hK hR hkk hF hP hS hE hX hdg hlen hres h1 h7 hz hsum hrcv (hcall _ _ _ _ h3) (fun h39 => by omega) (fun h39 => by omega)
        refine ix_aft hE hrun hS (fun v1 H1 locs1 e1 => by cases e1) (fun x1 q9 ce H1 locs1 e1 q1 q2 q3 g1 g2 g3 => ?_)
        cases e1
        rcases h4 with ⟨hs0, h4⟩ | ⟨e9, hf9, hl9, h4⟩
        · subst h4
          refine vx_out (fun x hx9 => absurd (hno hs0 x hx9) id) hlk g1 g2 g3 (fun t ht hv => ?_) q3.2.2 (by show c0 + k + k' ≤ c0 + (k + k'); omega) (by show s0 + 6 * k + 6 * k' ≤ s0 + 6 * (k + k'); omega)
          exact ⟨x, rfl, rfl, ix_lend q1 hE q2 q3 ht hv⟩
        · obtain ⟨name, pre, z, suf, t1, t2, t3, t4, t5, t6, oh, i0, t7, t8, t9, t10⟩ := hcat o x e9 (List.mem_of_getElem? ho) hf9
          refine vx_catch hown pre z suf t1 t2 t3 t4 t5 t6 g1 g2 g3 ?_
          have hokh := List.all_eq_true.mp ok1 oh (List.mem_of_getElem? t7)
          unfold ix_ok1 at hokh
          simp only [Bool.and_eq_true, Bool.or_eq_true, decide_eq_true_eq] at hokh
          obtain ⟨⟨hdgh, hlenh⟩, -⟩ := hokh
          obtain ⟨h0L, hcL, lv, h1L, h2L⟩ := hL
          obtain ⟨o', ho'⟩ := ix_run_some h4
          rw [t10] at ho' h4
          have hpc' := ix_chain_at _ ok2 i0 oh o' t7 ho'
          rw [← t8]
          rcases t9 with ⟨n9, t9, t9b⟩ | t9
          · rw [t9] at hdgh hlenh
            have hn : ix_len oh = 1 := by rcases hlenh with h1 | h1 <;> first | exact h1.symm | cases h1
            rw [hn] at hdgh hpc'
            refine lv_astore_n hx hb hdgh t9b h1L (by rw [← h0L]; exact hl9) rfl (fun ls' hl' => ?_)
            have := ih (i0 + 1) _ _ _ _ h4 o' ho' H1 locs1 ls' (ix_Lh.drop h0L hcL h2L hl') q1 q2 q3
            rw [hpc', Nat.mul_add, ← Nat.add_assoc, ← Nat.add_assoc] at this
            exact this
          · rw [t9] at hdgh hlenh
            have hn : ix_len oh = 2 := by rcases hlenh with h1 | h1 <;> first | exact h1.symm | cases h1
            rw [hn] at hdgh hpc'
            refine lv_astore hx hb hdgh h1L (by rw [← h0L]; exact hl9) rfl (fun ls' hl' => ?_)
            have := ih (i0 + 1) _ _ _ _ h4 o' ho' H1 locs1 ls' (ix_Lh.drop h0L hcL h2L hl') q1 q2 q3
            rw [hpc', Nat.mul_add, ← Nat.add_assoc, ← Nat.add_assoc] at this
            exact this
    · subst h2
      subst h4
      rw [h1] at hdg hlen
      have hn : ix_len o = 1 := by rcases hlen with h9 | h9 <;> first | exact h9.symm | cases h9
      rw [hn] at hdg
      unfold ix_okr at hokr
      split at hokr
      · exact absurd h1 (of_decide_eq_true (List.all_eq_true.mp hokr o (List.mem_of_getElem? ho)))
      · rename_i ty hty
        simp only [Bool.and_eq_true, Bool.or_eq_true, decide_eq_true_eq] at hokr
        have hnar : narrow ty (.int v) = .int v := by
          rcases hokr.2 with h9 | ⟨h9, h10⟩
          · rw [h9]; rfl
          · have h11 := List.all_eq_true.mp h10 o (List.mem_of_getElem? ho)
            simp only [Bool.or_eq_true, decide_eq_true_eq] at h11
            rw [h9]
            rcases h11 with h11 | h11
            · exact absurd h1 h11
            · rcases h3 with h3 | h3 | h3
              · omega
              · rw [h3]; rfl
              · rw [h3]; rfl
        exact vx_ret (W.zret hx hb (hret.trans hty) hnar (fun t ht hW => ⟨some (.int v), rfl, rfl, ix_lend hP hE hX hS ht hW.alike⟩) hS.2.2 hdg hlk)
    · subst h2
      subst h4
      rw [h1] at hdg hlen
      have hn : ix_len o = 1 := by rcases hlen with h9 | h9 <;> first | exact h9.symm | cases h9
      rw [hn] at hdg
      unfold ix_okr at hokr
      split at hokr
      · rename_i hty
        exact vx_ret (W.vret hx hb (hret.trans hty) (fun t ht hW => ⟨none, rfl, rfl, ix_lend hP hE hX hS ht hW.alike⟩) hS.2.2 hdg hlk)
      · simp only [Bool.and_eq_true] at hokr
        exact absurd h1 (of_decide_eq_true (List.all_eq_true.mp hokr.1 o (List.mem_of_getElem? ho)))
    · subst h2
      rw [h1] at hdg hlen
      have hn : ix_len o = 3 := by rcases hlen with h9 | h9 <;> first | exact h9.symm | cases h9
      rw [hn] at hdg
      unfold ix_res at hres
      rw [h1] at hres
      dsimp only at hres
      rw [if_pos h3] at hres
      simp only [Bool.and_eq_true, Bool.or_eq_true, decide_eq_true_eq] at hres
      obtain ⟨⟨⟨r1, r2⟩, r3⟩, r4⟩ := hres
      have hno' := hno (hM11 r1)
      rw [r1, ix_cn11] at hown
      rcases r4 with ⟨⟨⟨s1, s2⟩, s3⟩, s4⟩ | ⟨⟨⟨s1, s2⟩, s3⟩, s4⟩
      · rw [s1] at h4
        subst h4
        rw [s2] at hdg
        exact ix_lthrow0 hl hx hb (hml.trans hL.size.symm) hown hR hP hS hE hX hno' hlk hdg r2 s3 s4 r3
      · rw [s1] at h4
        subst h4
        rw [s2] at hdg
        exact ix_lthrow1 hl hx hb (hml.trans hL.size.symm) hown hR hP hS hE hX hno' hlk hdg r2 s3 s4 r3
end IXM
end
section
theorem ok_0 : ix_okm mt_0 = true := by decide +kernel
theorem ok_1 : ix_okm mt_1 = true := by decide +kernel
theorem ok_2 : ix_okm mt_2 = true := by decide +kernel
theorem ok_3 : ix_okm mt_3 = true := by decide +kernel
theorem ok_4 : ix_okm mt_4 = true := by decide +kernel
theorem ok_5 : ix_okm mt_5 = true := by decide +kernel
theorem ok_6 : ix_okm mt_6 = true := by decide +kernel
theorem ok_7 : ix_okm mt_7 = true := by decide +kernel
theorem ok_8 : ix_okm mt_8 = true := by decide +kernel
theorem ok_9 : ix_okm mt_9 = true := by decide +kernel
theorem ok_10 : ix_okm mt_10 = true := by decide +kernel
theorem ok_11 : ix_okm mt_11 = true := by decide +kernel
theorem ok_12 : ix_okm mt_12 = true := by decide +kernel
theorem ok_13 : ix_okm mt_13 = true := by decide +kernel
theorem ok_14 : ix_okm mt_14 = true := by decide +kernel
theorem ok_15 : ix_okm mt_15 = true := by decide +kernel
theorem og_0 : ∀ M ∈ ix_tg0, ix_okm M = true := List.forall_mem_cons.mpr ⟨ok_0, List.forall_mem_cons.mpr ⟨ok_1, List.forall_mem_cons.mpr ⟨ok_2, List.forall_mem_cons.mpr ⟨ok_3, List.forall_mem_cons.mpr ⟨ok_4, List.forall_mem_cons.mpr ⟨ok_5, List.forall_mem_cons.mpr ⟨ok_6, List.forall_mem_cons.mpr ⟨ok_7, List.forall_mem_cons.mpr ⟨ok_8, List.forall_mem_cons.mpr ⟨ok_9, List.forall_mem_cons.mpr ⟨ok_10, List.forall_mem_cons.mpr ⟨ok_11, List.forall_mem_cons.mpr ⟨ok_12, List.forall_mem_cons.mpr ⟨ok_13, List.forall_mem_cons.mpr ⟨ok_14, List.forall_mem_cons.mpr ⟨ok_15, fun _ h => absurd h List.not_mem_nil⟩⟩⟩⟩⟩⟩⟩⟩⟩⟩⟩⟩⟩⟩⟩⟩
theorem ok_16 : ix_okm mt_16 = true := by decide +kernel
theorem ok_17 : ix_okm mt_17 = true := by decide +kernel
theorem ok_18 : ix_okm mt_18 = true := by decide +kernel
theorem ok_19 : ix_okm mt_19 = true := by decide +kernel
theorem ok_20 : ix_okm mt_20 = true := by decide +kernel
theorem ok_21 : ix_okm mt_21 = true := by decide +kernel
theorem ok_22 : ix_okm mt_22 = true := by decide +kernel
theorem ok_23 : ix_okm mt_23 = true := by decide +kernel
theorem ok_24 : ix_okm mt_24 = true := by decide +kernel
theorem ok_25 : ix_okm mt_25 = true := by decide +kernel
theorem ok_26 : ix_okm mt_26 = true := by decide +kernel
theorem ok_27 : ix_okm mt_27 = true := by decide +kernel
theorem ok_28 : ix_okm mt_28 = true := by decide +kernel
theorem ok_29 : ix_okm mt_29 = true := by decide +kernel
theorem ok_30 : ix_okm mt_30 = true := by decide +kernel
theorem ok_31 : ix_okm mt_31 = true := by decide +kernel
theorem og_1 : ∀ M ∈ ix_tg1, ix_okm M = true := List.forall_mem_cons.mpr ⟨ok_16, List.forall_mem_cons.mpr ⟨ok_17, List.forall_mem_cons.mpr ⟨ok_18, List.forall_mem_cons.mpr ⟨ok_19, List.forall_mem_cons.mpr ⟨ok_20, List.forall_mem_cons.mpr ⟨ok_21, List.forall_mem_cons.mpr ⟨ok_22, List.forall_mem_cons.mpr ⟨ok_23, List.forall_mem_cons.mpr ⟨ok_24, List.forall_mem_cons.mpr ⟨ok_25, List.forall_mem_cons.mpr ⟨ok_26, List.forall_mem_cons.mpr ⟨ok_27, List.forall_mem_cons.mpr ⟨ok_28, List.forall_mem_cons.mpr ⟨ok_29, List.forall_mem_cons.mpr ⟨ok_30, List.forall_mem_cons.mpr ⟨ok_31, fun _ h => absurd h List.not_mem_nil⟩⟩⟩⟩⟩⟩⟩⟩⟩⟩⟩⟩⟩⟩⟩⟩
theorem ok_32 : ix_okm mt_32 = true := by decide +kernel
theorem ok_33 : ix_okm mt_33 = true := by decide +kernel
theorem ok_34 : ix_okm mt_34 = true := by decide +kernel
theorem ok_35 : ix_okm mt_35 = true := by decide +kernel
theorem ok_36 : ix_okm mt_36 = true := by decide +kernel
theorem ok_37 : ix_okm mt_37 = true := by decide +kernel
theorem ok_38 : ix_okm mt_38 = true := by decide +kernel
theorem ok_39 : ix_okm mt_39 = true := by decide +kernel
theorem ok_40 : ix_okm mt_40 = true := by decide +kernel
theorem ok_41 : ix_okm mt_41 = true := by decide +kernel
theorem ok_42 : ix_okm mt_42 = true := by decide +kernel
theorem ok_43 : ix_okm mt_43 = true := by decide +kernel
theorem ok_44 : ix_okm mt_44 = true := by decide +kernel
theorem ok_45 : ix_okm mt_45 = true := by decide +kernel
theorem ok_46 : ix_okm mt_46 = true := by decide +kernel
theorem ok_47 : ix_okm mt_47 = true := by decide +kernel
theorem og_2 : ∀ M ∈ ix_tg2, ix_okm M = true := List.forall_mem_cons.mpr ⟨ok_32, List.forall_mem_cons.mpr ⟨ok_33, List.forall_mem_cons.mpr ⟨ok_34, List.forall_mem_cons.mpr ⟨ok_35, List.forall_mem_cons.mpr ⟨ok_36, List.forall_mem_cons.mpr ⟨ok_37, List.forall_mem_cons.mpr ⟨ok_38, List.forall_mem_cons.mpr ⟨ok_39, List.forall_mem_cons.mpr ⟨ok_40, List.forall_mem_cons.mpr ⟨ok_41, List.forall_mem_cons.mpr ⟨ok_42, List.forall_mem_cons.mpr ⟨ok_43, List.forall_mem_cons.mpr ⟨ok_44, List.forall_mem_cons.mpr ⟨ok_45, List.forall_mem_cons.mpr ⟨ok_46, List.forall_mem_cons.mpr ⟨ok_47, fun _ h => absurd h List.not_mem_nil⟩⟩⟩⟩⟩⟩⟩⟩⟩⟩⟩⟩⟩⟩⟩⟩
theorem ok_48 : ix_okm mt_48 = true := by decide +kernel
theorem ok_49 : ix_okm mt_49 = true := by decide +kernel
theorem ok_50 : ix_okm mt_50 = true := by decide +kernel
theorem ok_51 : ix_okm mt_51 = true := by decide +kernel
theorem ok_52 : ix_okm mt_52 = true := by decide +kernel
theorem ok_53 : ix_okm mt_53 = true := by decide +kernel
theorem ok_54 : ix_okm mt_54 = true := by decide +kernel
theorem ok_55 : ix_okm mt_55 = true := by decide +kernel
theorem ok_56 : ix_okm mt_56 = true := by decide +kernel
theorem ok_57 : ix_okm mt_57 = true := by decide +kernel
theorem ok_58 : ix_okm mt_58 = true := by decide +kernel
theorem ok_59 : ix_okm mt_59 = true := by decide +kernel
theorem ok_60 : ix_okm mt_60 = true := by decide +kernel
theorem ok_61 : ix_okm mt_61 = true := by decide +kernel
theorem ok_62 : ix_okm mt_62 = true := by decide +kernel
theorem ok_63 : ix_okm mt_63 = true := by decide +kernel
theorem og_3 : ∀ M ∈ ix_tg3, ix_okm M = true := List.forall_mem_cons.mpr ⟨ok_48, List.forall_mem_cons.mpr ⟨ok_49, List.forall_mem_cons.mpr ⟨ok_50, List.forall_mem_cons.mpr ⟨ok_51, List.forall_mem_cons.mpr ⟨ok_52, List.forall_mem_cons.mpr ⟨ok_53, List.forall_mem_cons.mpr ⟨ok_54, List.forall_mem_cons.mpr ⟨ok_55, List.forall_mem_cons.mpr ⟨ok_56, List.forall_mem_cons.mpr ⟨ok_57, List.forall_mem_cons.mpr ⟨ok_58, List.forall_mem_cons.mpr ⟨ok_59, List.forall_mem_cons.mpr ⟨ok_60, List.forall_mem_cons.mpr ⟨ok_61, List.forall_mem_cons.mpr ⟨ok_62, List.forall_mem_cons.mpr ⟨ok_63, fun _ h => absurd h List.not_mem_nil⟩⟩⟩⟩⟩⟩⟩⟩⟩⟩⟩⟩⟩⟩⟩⟩
theorem ok_64 : ix_okm mt_64 = true := by decide +kernel
theorem ok_65 : ix_okm mt_65 = true := by decide +kernel
theorem ok_66 : ix_okm mt_66 = true := by decide +kernel
theorem ok_67 : ix_okm mt_67 = true := by decide +kernel
theorem ok_68 : ix_okm mt_68 = true := by decide +kernel
theorem ok_69 : ix_okm mt_69 = true := by decide +kernel
theorem ok_70 : ix_okm mt_70 = true := by decide +kernel
theorem ok_71 : ix_okm mt_71 = true := by decide +kernel
theorem ok_72 : ix_okm mt_72 = true := by decide +kernel
theorem ok_73 : ix_okm mt_73 = true := by decide +kernel
theorem ok_74 : ix_okm mt_74 = true := by decide +kernel
theorem ok_75 : ix_okm mt_75 = true := by decide +kernel
theorem ok_76 : ix_okm mt_76 = true := by decide +kernel
theorem ok_77 : ix_okm mt_77 = true := by decide +kernel
theorem ok_78 : ix_okm mt_78 = true := by decide +kernel
theorem ok_79 : ix_okm mt_79 = true := by decide +kernel
theorem og_4 : ∀ M ∈ ix_tg4, ix_okm M = true := List.forall_mem_cons.mpr ⟨ok_64, List.forall_mem_cons.mpr ⟨ok_65, List.forall_mem_cons.mpr ⟨ok_66, List.forall_mem_cons.mpr ⟨ok_67, List.forall_mem_cons.mpr ⟨ok_68, List.forall_mem_cons.mpr ⟨ok_69, List.forall_mem_cons.mpr ⟨ok_70, List.forall_mem_cons.mpr ⟨ok_71, List.forall_mem_cons.mpr ⟨ok_72, List.forall_mem_cons.mpr ⟨ok_73, List.forall_mem_cons.mpr ⟨ok_74, List.forall_mem_cons.mpr ⟨ok_75, List.forall_mem_cons.mpr ⟨ok_76, List.forall_mem_cons.mpr ⟨ok_77, List.forall_mem_cons.mpr ⟨ok_78, List.forall_mem_cons.mpr ⟨ok_79, fun _ h => absurd h List.not_mem_nil⟩⟩⟩⟩⟩⟩⟩⟩⟩⟩⟩⟩⟩⟩⟩⟩
theorem ok_80 : ix_okm mt_80 = true := by decide +kernel
theorem ok_81 : ix_okm mt_81 = true := by decide +kernel
theorem ok_82 : ix_okm mt_82 = true := by decide +kernel
theorem ok_83 : ix_okm mt_83 = true := by decide +kernel
theorem ok_84 : ix_okm mt_84 = true := by decide +kernel
theorem ok_85 : ix_okm mt_85 = true := by decide +kernel
theorem ok_86 : ix_okm mt_86 = true := by decide +kernel
theorem ok_87 : ix_okm mt_87 = true := by decide +kernel
theorem ok_88 : ix_okm mt_88 = true := by decide +kernel
theorem ok_89 : ix_okm mt_89 = true := by decide +kernel
theorem ok_90 : ix_okm mt_90 = true := by decide +kernel
theorem ok_91 : ix_okm mt_91 = true := by decide +kernel
theorem ok_92 : ix_okm mt_92 = true := by decide +kernel
theorem ok_93 : ix_okm mt_93 = true := by decide +kernel
theorem ok_94 : ix_okm mt_94 = true := by decide +kernel
theorem ok_95 : ix_okm mt_95 = true := by decide +kernel
theorem og_5 : ∀ M ∈ ix_tg5, ix_okm M = true := List.forall_mem_cons.mpr ⟨ok_80, List.forall_mem_cons.mpr ⟨ok_81, List.forall_mem_cons.mpr ⟨ok_82, List.forall_mem_cons.mpr ⟨ok_83, List.forall_mem_cons.mpr ⟨ok_84, List.forall_mem_cons.mpr ⟨ok_85, List.forall_mem_cons.mpr ⟨ok_86, List.forall_mem_cons.mpr ⟨ok_87, List.forall_mem_cons.mpr ⟨ok_88, List.forall_mem_cons.mpr ⟨ok_89, List.forall_mem_cons.mpr ⟨ok_90, List.forall_mem_cons.mpr ⟨ok_91, List.forall_mem_cons.mpr ⟨ok_92, List.forall_mem_cons.mpr ⟨ok_93, List.forall_mem_cons.mpr ⟨ok_94, List.forall_mem_cons.mpr ⟨ok_95, fun _ h => absurd h List.not_mem_nil⟩⟩⟩⟩⟩⟩⟩⟩⟩⟩⟩⟩⟩⟩⟩⟩
end
section
theorem ok_96 : ix_okm mt_96 = true := by decide +kernel
theorem ok_97 : ix_okm mt_97 = true := by decide +kernel
theorem ok_98 : ix_okm mt_98 = true := by decide +kernel
theorem ok_99 : ix_okm mt_99 = true := by decide +kernel
theorem ok_100 : ix_okm mt_100 = true := by decide +kernel
theorem ok_101 : ix_okm mt_101 = true := by decide +kernel
theorem ok_102 : ix_okm mt_102 = true := by decide +kernel
theorem ok_103 : ix_okm mt_103 = true := by decide +kernel
theorem ok_104 : ix_okm mt_104 = true := by decide +kernel
theorem ok_105 : ix_okm mt_105 = true := by decide +kernel
theorem ok_106 : ix_okm mt_106 = true := by decide +kernel
theorem ok_107 : ix_okm mt_107 = true := by decide +kernel
theorem ok_108 : ix_okm mt_108 = true := by decide +kernel
theorem ok_109 : ix_okm mt_109 = true := by decide +kernel
theorem ok_110 : ix_okm mt_110 = true := by decide +kernel
theorem ok_111 : ix_okm mt_111 = true := by decide +kernel
theorem og_6 : ∀ M ∈ ix_tg6, ix_okm M = true := List.forall_mem_cons.mpr ⟨ok_96, List.forall_mem_cons.mpr ⟨ok_97, List.forall_mem_cons.mpr ⟨ok_98, List.forall_mem_cons.mpr ⟨ok_99, List.forall_mem_cons.mpr ⟨ok_100, List.forall_mem_cons.mpr ⟨ok_101, List.forall_mem_cons.mpr ⟨ok_102, List.forall_mem_cons.mpr ⟨ok_103, List.forall_mem_cons.mpr ⟨ok_104, List.forall_mem_cons.mpr ⟨ok_105, List.forall_mem_cons.mpr ⟨ok_106, List.forall_mem_cons.mpr ⟨ok_107, List.forall_mem_cons.mpr ⟨ok_108, List.forall_mem_cons.mpr ⟨ok_109, List.forall_mem_cons.mpr ⟨ok_110, List.forall_mem_cons.mpr ⟨ok_111, fun _ h => absurd h List.not_mem_nil⟩⟩⟩⟩⟩⟩⟩⟩⟩⟩⟩⟩⟩⟩⟩⟩
theorem ok_112 : ix_okm mt_112 = true := by decide +kernel
theorem ok_113 : ix_okm mt_113 = true := by decide +kernel
theorem ok_114 : ix_okm mt_114 = true := by decide +kernel
theorem ok_115 : ix_okm mt_115 = true := by decide +kernel
theorem ok_116 : ix_okm mt_116 = true := by decide +kernel
theorem ok_117 : ix_okm mt_117 = true := by decide +kernel
theorem ok_118 : ix_okm mt_118 = true := by decide +kernel
theorem ok_119 : ix_okm mt_119 = true := by decide +kernel
theorem ok_120 : ix_okm mt_120 = true := by decide +kernel
theorem ok_121 : ix_okm mt_121 = true := by decide +kernel
theorem ok_122 : ix_okm mt_122 = true := by decide +kernel
theorem ok_123 : ix_okm mt_123 = true := by decide +kernel
theorem ok_124 : ix_okm mt_124 = true := by decide +kernel
theorem ok_125 : ix_okm mt_125 = true := by decide +kernel
theorem ok_126 : ix_okm mt_126 = true := by decide +kernel
theorem ok_127 : ix_okm mt_127 = true := by decide +kernel
theorem og_7 : ∀ M ∈ ix_tg7, ix_okm M = true := List.forall_mem_cons.mpr ⟨ok_112, List.forall_mem_cons.mpr ⟨ok_113, List.forall_mem_cons.mpr ⟨ok_114, List.forall_mem_cons.mpr ⟨ok_115, List.forall_mem_cons.mpr ⟨ok_116, List.forall_mem_cons.mpr ⟨ok_117, List.forall_mem_cons.mpr ⟨ok_118, List.forall_mem_cons.mpr ⟨ok_119, List.forall_mem_cons.mpr ⟨ok_120, List.forall_mem_cons.mpr ⟨ok_121, List.forall_mem_cons.mpr ⟨ok_122, List.forall_mem_cons.mpr ⟨ok_123, List.forall_mem_cons.mpr ⟨ok_124, List.forall_mem_cons.mpr ⟨ok_125, List.forall_mem_cons.mpr ⟨ok_126, List.forall_mem_cons.mpr ⟨ok_127, fun _ h => absurd h List.not_mem_nil⟩⟩⟩⟩⟩⟩⟩⟩⟩⟩⟩⟩⟩⟩⟩⟩
theorem ok_128 : ix_okm mt_128 = true := by decide +kernel
theorem ok_129 : ix_okm mt_129 = true := by decide +kernel
theorem ok_130 : ix_okm mt_130 = true := by decide +kernel
theorem ok_131 : ix_okm mt_131 = true := by decide +kernel
theorem ok_132 : ix_okm mt_132 = true := by decide +kernel
theorem ok_133 : ix_okm mt_133 = true := by decide +kernel
theorem ok_134 : ix_okm mt_134 = true := by decide +kernel
theorem ok_135 : ix_okm mt_135 = true := by decide +kernel
theorem ok_136 : ix_okm mt_136 = true := by decide +kernel
theorem ok_137 : ix_okm mt_137 = true := by decide +kernel
theorem ok_138 : ix_okm mt_138 = true := by decide +kernel
theorem ok_139 : ix_okm mt_139 = true := by decide +kernel
theorem ok_140 : ix_okm mt_140 = true := by decide +kernel
theorem ok_141 : ix_okm mt_141 = true := by decide +kernel
theorem ok_142 : ix_okm mt_142 = true := by decide +kernel
theorem ok_143 : ix_okm mt_143 = true := by decide +kernel
theorem og_8 : ∀ M ∈ ix_tg8, ix_okm M = true := List.forall_mem_cons.mpr ⟨ok_128, List.forall_mem_cons.mpr ⟨ok_129, List.forall_mem_cons.mpr ⟨ok_130, List.forall_mem_cons.mpr ⟨ok_131, List.forall_mem_cons.mpr ⟨ok_132, List.forall_mem_cons.mpr ⟨ok_133, List.forall_mem_cons.mpr ⟨ok_134, List.forall_mem_cons.mpr ⟨ok_135, List.forall_mem_cons.mpr ⟨ok_136, List.forall_mem_cons.mpr ⟨ok_137, List.forall_mem_cons.mpr ⟨ok_138, List.forall_mem_cons.mpr ⟨ok_139, List.forall_mem_cons.mpr ⟨ok_140, List.forall_mem_cons.mpr ⟨ok_141, List.forall_mem_cons.mpr ⟨ok_142, List.forall_mem_cons.mpr ⟨ok_143, fun _ h => absurd h List.not_mem_nil⟩⟩⟩⟩⟩⟩⟩⟩⟩⟩⟩⟩⟩⟩⟩⟩
theorem ok_144 : ix_okm mt_144 = true := by decide +kernel
theorem ok_145 : ix_okm mt_145 = true := by decide +kernel
theorem ok_146 : ix_okm mt_146 = true := by decide +kernel
theorem ok_147 : ix_okm mt_147 = true := by decide +kernel
theorem ok_148 : ix_okm mt_148 = true := by decide +kernel
theorem ok_149 : ix_okm mt_149 = true := by decide +kernel
theorem ok_150 : ix_okm mt_150 = true := by decide +kernel
theorem ok_151 : ix_okm mt_151 = true := by decide +kernel
theorem ok_152 : ix_okm mt_152 = true := by decide +kernel
theorem ok_153 : ix_okm mt_153 = true := by decide +kernel
theorem ok_154 : ix_okm mt_154 = true := by decide +kernel
theorem ok_155 : ix_okm mt_155 = true := by decide +kernel
theorem ok_156 : ix_okm mt_156 = true := by decide +kernel
theorem ok_157 : ix_okm mt_157 = true := by decide +kernel
theorem ok_158 : ix_okm mt_158 = true := by decide +kernel
theorem ok_159 : ix_okm mt_159 = true := by decide +kernel
theorem og_9 : ∀ M ∈ ix_tg9, ix_okm M = true := List.forall_mem_cons.mpr ⟨ok_144, List.forall_mem_cons.mpr ⟨ok_145, List.forall_mem_cons.mpr ⟨ok_146, List.forall_mem_cons.mpr ⟨ok_147, List.forall_mem_cons.mpr ⟨ok_148, List.forall_mem_cons.mpr ⟨ok_149, List.forall_mem_cons.mpr ⟨ok_150, List.forall_mem_cons.mpr ⟨ok_151, List.forall_mem_cons.mpr ⟨ok_152, List.forall_mem_cons.mpr ⟨ok_153, List.forall_mem_cons.mpr ⟨ok_154, List.forall_mem_cons.mpr ⟨ok_155, List.forall_mem_cons.mpr ⟨ok_156, List.forall_mem_cons.mpr ⟨ok_157, List.forall_mem_cons.mpr ⟨ok_158, List.forall_mem_cons.mpr ⟨ok_159, fun _ h => absurd h List.not_mem_nil⟩⟩⟩⟩⟩⟩⟩⟩⟩⟩⟩⟩⟩⟩⟩⟩
end
section
theorem ok_160 : ix_okm mt_160 = true := by decide +kernel
theorem ok_161 : ix_okm mt_161 = true := by decide +kernel
theorem ok_162 : ix_okm mt_162 = true := by decide +kernel
theorem ok_163 : ix_okm mt_163 = true := by decide +kernel
theorem ok_164 : ix_okm mt_164 = true := by decide +kernel
theorem ok_165 : ix_okm mt_165 = true := by decide +kernel
theorem ok_166 : ix_okm mt_166 = true := by decide +kernel
theorem ok_167 : ix_okm mt_167 = true := by decide +kernel
theorem ok_168 : ix_okm mt_168 = true := by decide +kernel
theorem ok_169 : ix_okm mt_169 = true := by decide +kernel
theorem ok_170 : ix_okm mt_170 = true := by decide +kernel
theorem ok_171 : ix_okm mt_171 = true := by decide +kernel
theorem ok_172 : ix_okm mt_172 = true := by decide +kernel
theorem ok_173 : ix_okm mt_173 = true := by decide +kernel
theorem ok_174 : ix_okm mt_174 = true := by decide +kernel
theorem ok_175 : ix_okm mt_175 = true := by decide +kernel
theorem og_10 : ∀ M ∈ ix_tg10, ix_okm M = true := List.forall_mem_cons.mpr ⟨ok_160, List.forall_mem_cons.mpr ⟨ok_161, List.forall_mem_cons.mpr ⟨ok_162, List.forall_mem_cons.mpr ⟨ok_163, List.forall_mem_cons.mpr ⟨ok_164, List.forall_mem_cons.mpr ⟨ok_165, List.forall_mem_cons.mpr ⟨ok_166, List.forall_mem_cons.mpr ⟨ok_167, List.forall_mem_cons.mpr ⟨ok_168, List.forall_mem_cons.mpr ⟨ok_169, List.forall_mem_cons.mpr ⟨ok_170, List.forall_mem_cons.mpr ⟨ok_171, List.forall_mem_cons.mpr ⟨ok_172, List.forall_mem_cons.mpr ⟨ok_173, List.forall_mem_cons.mpr ⟨ok_174, List.forall_mem_cons.mpr ⟨ok_175, fun _ h => absurd h List.not_mem_nil⟩⟩⟩⟩⟩⟩⟩⟩⟩⟩⟩⟩⟩⟩⟩⟩
theorem ok_176 : ix_okm mt_176 = true := by decide +kernel
theorem ok_177 : ix_okm mt_177 = true := by decide +kernel
theorem ok_178 : ix_okm mt_178 = true := by decide +kernel
theorem ok_179 : ix_okm mt_179 = true := by decide +kernel
theorem ok_180 : ix_okm mt_180 = true := by decide +kernel
theorem ok_181 : ix_okm mt_181 = true := by decide +kernel
theorem ok_182 : ix_okm mt_182 = true := by decide +kernel
theorem ok_183 : ix_okm mt_183 = true := by decide +kernel
theorem ok_184 : ix_okm mt_184 = true := by decide +kernel
theorem ok_185 : ix_okm mt_185 = true := by decide +kernel
theorem ok_186 : ix_okm mt_186 = true := by decide +kernel
theorem ok_187 : ix_okm mt_187 = true := by decide +kernel
theorem ok_188 : ix_okm mt_188 = true := by decide +kernel
theorem ok_189 : ix_okm mt_189 = true := by decide +kernel
theorem ok_190 : ix_okm mt_190 = true := by decide +kernel
theorem ok_191 : ix_okm mt_191 = true := by decide +kernel
theorem og_11 : ∀ M ∈ ix_tg11, ix_okm M = true := List.forall_mem_cons.mpr ⟨ok_176, List.forall_mem_cons.mpr ⟨ok_177, List.forall_mem_cons.mpr ⟨ok_178, List.forall_mem_cons.mpr ⟨ok_179, List.forall_mem_cons.mpr ⟨ok_180, List.forall_mem_cons.mpr ⟨ok_181, List.forall_mem_cons.mpr ⟨ok_182, List.forall_mem_cons.mpr ⟨ok_183, List.forall_mem_cons.mpr ⟨ok_184, List.forall_mem_cons.mpr ⟨ok_185, List.forall_mem_cons.mpr ⟨ok_186, List.forall_mem_cons.mpr ⟨ok_187, List.forall_mem_cons.mpr ⟨ok_188, List.forall_mem_cons.mpr ⟨ok_189, List.forall_mem_cons.mpr ⟨ok_190, List.forall_mem_cons.mpr ⟨ok_191, fun _ h => absurd h List.not_mem_nil⟩⟩⟩⟩⟩⟩⟩⟩⟩⟩⟩⟩⟩⟩⟩⟩
theorem ok_192 : ix_okm mt_192 = true := by decide +kernel
theorem ok_193 : ix_okm mt_193 = true := by decide +kernel
theorem ok_194 : ix_okm mt_194 = true := by decide +kernel
theorem ok_195 : ix_okm mt_195 = true := by decide +kernel
theorem ok_196 : ix_okm mt_196 = true := by decide +kernel
theorem ok_197 : ix_okm mt_197 = true := by decide +kernel
theorem ok_198 : ix_okm mt_198 = true := by decide +kernel
theorem ok_199 : ix_okm mt_199 = true := by decide +kernel
theorem ok_200 : ix_okm mt_200 = true := by decide +kernel
theorem ok_201 : ix_okm mt_201 = true := by decide +kernel
theorem ok_202 : ix_okm mt_202 = true := by decide +kernel
theorem ok_203 : ix_okm mt_203 = true := by decide +kernel
theorem ok_204 : ix_okm mt_204 = true := by decide +kernel
theorem ok_205 : ix_okm mt_205 = true := by decide +kernel
theorem ok_206 : ix_okm mt_206 = true := by decide +kernel
theorem ok_207 : ix_okm mt_207 = true := by decide +kernel
theorem og_12 : ∀ M ∈ ix_tg12, ix_okm M = true := List.forall_mem_cons.mpr ⟨ok_192, List.forall_mem_cons.mpr ⟨ok_193, List.forall_mem_cons.mpr ⟨ok_194, List.forall_mem_cons.mpr ⟨ok_195, List.forall_mem_cons.mpr ⟨ok_196, List.forall_mem_cons.mpr ⟨ok_197, List.forall_mem_cons.mpr ⟨ok_198, List.forall_mem_cons.mpr ⟨ok_199, List.forall_mem_cons.mpr ⟨ok_200, List.forall_mem_cons.mpr ⟨ok_201, List.forall_mem_cons.mpr ⟨ok_202, List.forall_mem_cons.mpr ⟨ok_203, List.forall_mem_cons.mpr ⟨ok_204, List.forall_mem_cons.mpr ⟨ok_205, List.forall_mem_cons.mpr ⟨ok_206, List.forall_mem_cons.mpr ⟨ok_207, fun _ h => absurd h List.not_mem_nil⟩⟩⟩⟩⟩⟩⟩⟩⟩⟩⟩⟩⟩⟩⟩⟩
theorem ok_208 : ix_okm mt_208 = true := by decide +kernel
theorem ok_209 : ix_okm mt_209 = true := by decide +kernel
theorem ok_210 : ix_okm mt_210 = true := by decide +kernel
theorem ok_211 : ix_okm mt_211 = true := by decide +kernel
theorem ok_212 : ix_okm mt_212 = true := by decide +kernel
theorem ok_213 : ix_okm mt_213 = true := by decide +kernel
theorem ok_214 : ix_okm mt_214 = true := by decide +kernel
theorem ok_215 : ix_okm mt_215 = true := by decide +kernel
theorem ok_216 : ix_okm mt_216 = true := by decide +kernel
theorem ok_217 : ix_okm mt_217 = true := by decide +kernel
theorem ok_218 : ix_okm mt_218 = true := by decide +kernel
theorem ok_219 : ix_okm mt_219 = true := by decide +kernel
theorem ok_220 : ix_okm mt_220 = true := by decide +kernel
theorem ok_221 : ix_okm mt_221 = true := by decide +kernel
theorem ok_222 : ix_okm mt_222 = true := by decide +kernel
theorem ok_223 : ix_okm mt_223 = true := by decide +kernel
theorem og_13 : ∀ M ∈ ix_tg13, ix_okm M = true := List.forall_mem_cons.mpr ⟨ok_208, List.forall_mem_cons.mpr ⟨ok_209, List.forall_mem_cons.mpr ⟨ok_210, List.forall_mem_cons.mpr ⟨ok_211, List.forall_mem_cons.mpr ⟨ok_212, List.forall_mem_cons.mpr ⟨ok_213, List.forall_mem_cons.mpr ⟨ok_214, List.forall_mem_cons.mpr ⟨ok_215, List.forall_mem_cons.mpr ⟨ok_216, List.forall_mem_cons.mpr ⟨ok_217, List.forall_mem_cons.mpr ⟨ok_218, List.forall_mem_cons.mpr ⟨ok_219, List.forall_mem_cons.mpr ⟨ok_220, List.forall_mem_cons.mpr ⟨ok_221, List.forall_mem_cons.mpr ⟨ok_222, List.forall_mem_cons.mpr ⟨ok_223, fun _ h => absurd h List.not_mem_nil⟩⟩⟩⟩⟩⟩⟩⟩⟩⟩⟩⟩⟩⟩⟩⟩
end
section
theorem ok_224 : ix_okm mt_224 = true := by decide +kernel
theorem ok_225 : ix_okm mt_225 = true := by decide +kernel
theorem ok_226 : ix_okm mt_226 = true := by decide +kernel
theorem ok_227 : ix_okm mt_227 = true := by decide +kernel
theorem ok_228 : ix_okm mt_228 = true := by decide +kernel
theorem ok_229 : ix_okm mt_229 = true := by decide +kernel
theorem ok_230 : ix_okm mt_230 = true := by decide +kernel
theorem ok_231 : ix_okm mt_231 = true := by decide +kernel
theorem ok_232 : ix_okm mt_232 = true := by decide +kernel
theorem ok_233 : ix_okm mt_233 = true := by decide +kernel
theorem ok_234 : ix_okm mt_234 = true := by decide +kernel
theorem ok_235 : ix_okm mt_235 = true := by decide +kernel
theorem ok_236 : ix_okm mt_236 = true := by decide +kernel
theorem ok_237 : ix_okm mt_237 = true := by decide +kernel
theorem ok_238 : ix_okm mt_238 = true := by decide +kernel
theorem ok_239 : ix_okm mt_239 = true := by decide +kernel
theorem og_14 : ∀ M ∈ ix_tg14, ix_okm M = true := List.forall_mem_cons.mpr ⟨ok_224, List.forall_mem_cons.mpr ⟨ok_225, List.forall_mem_cons.mpr ⟨ok_226, List.forall_mem_cons.mpr ⟨ok_227, List.forall_mem_cons.mpr ⟨ok_228, List.forall_mem_cons.mpr ⟨ok_229, List.forall_mem_cons.mpr ⟨ok_230, List.forall_mem_cons.mpr ⟨ok_231, List.forall_mem_cons.mpr ⟨ok_232, List.forall_mem_cons.mpr ⟨ok_233, List.forall_mem_cons.mpr ⟨ok_234, List.forall_mem_cons.mpr ⟨ok_235, List.forall_mem_cons.mpr ⟨ok_236, List.forall_mem_cons.mpr ⟨ok_237, List.forall_mem_cons.mpr ⟨ok_238, List.forall_mem_cons.mpr ⟨ok_239, fun _ h => absurd h List.not_mem_nil⟩⟩⟩⟩⟩⟩⟩⟩⟩⟩⟩⟩⟩⟩⟩⟩
theorem ok_240 : ix_okm mt_240 = true := by decide +kernel
theorem ok_241 : ix_okm mt_241 = true := by decide +kernel
theorem ok_242 : ix_okm mt_242 = true := by decide +kernel
theorem ok_243 : ix_okm mt_243 = true := by decide +kernel
theorem ok_244 : ix_okm mt_244 = true := by decide +kernel
theorem ok_245 : ix_okm mt_245 = true := by decide +kernel
theorem ok_246 : ix_okm mt_246 = true := by decide +kernel
theorem ok_247 : ix_okm mt_247 = true := by decide +kernel
theorem ok_248 : ix_okm mt_248 = true := by decide +kernel
theorem ok_249 : ix_okm mt_249 = true := by decide +kernel
theorem ok_250 : ix_okm mt_250 = true := by decide +kernel
theorem ok_251 : ix_okm mt_251 = true := by decide +kernel
theorem ok_252 : ix_okm mt_252 = true := by decide +kernel
theorem ok_253 : ix_okm mt_253 = true := by decide +kernel
theorem ok_254 : ix_okm mt_254 = true := by decide +kernel
theorem ok_255 : ix_okm mt_255 = true := by decide +kernel
theorem og_15 : ∀ M ∈ ix_tg15, ix_okm M = true := List.forall_mem_cons.mpr ⟨ok_240, List.forall_mem_cons.mpr ⟨ok_241, List.forall_mem_cons.mpr ⟨ok_242, List.forall_mem_cons.mpr ⟨ok_243, List.forall_mem_cons.mpr ⟨ok_244, List.forall_mem_cons.mpr ⟨ok_245, List.forall_mem_cons.mpr ⟨ok_246, List.forall_mem_cons.mpr ⟨ok_247, List.forall_mem_cons.mpr ⟨ok_248, List.forall_mem_cons.mpr ⟨ok_249, List.forall_mem_cons.mpr ⟨ok_250, List.forall_mem_cons.mpr ⟨ok_251, List.forall_mem_cons.mpr ⟨ok_252, List.forall_mem_cons.mpr ⟨ok_253, List.forall_mem_cons.mpr ⟨ok_254, List.forall_mem_cons.mpr ⟨ok_255, fun _ h => absurd h List.not_mem_nil⟩⟩⟩⟩⟩⟩⟩⟩⟩⟩⟩⟩⟩⟩⟩⟩
theorem ok_256 : ix_okm mt_256 = true := by decide +kernel
theorem ok_257 : ix_okm mt_257 = true := by decide +kernel
theorem ok_258 : ix_okm mt_258 = true := by decide +kernel
theorem ok_259 : ix_okm mt_259 = true := by decide +kernel
theorem og_16 : ∀ M ∈ ix_tg16, ix_okm M = true := List.forall_mem_cons.mpr ⟨ok_256, List.forall_mem_cons.mpr ⟨ok_257, List.forall_mem_cons.mpr ⟨ok_258, List.forall_mem_cons.mpr ⟨ok_259, fun _ h => absurd h List.not_mem_nil⟩⟩⟩⟩
end
section
theorem ix_okP : ∀ M ∈ ix_tabP, ix_okm M = true := List.forall_mem_append.mpr ⟨og_0, List.forall_mem_append.mpr ⟨og_1, List.forall_mem_append.mpr ⟨og_2, List.forall_mem_append.mpr ⟨og_3, List.forall_mem_append.mpr ⟨og_4, List.forall_mem_append.mpr ⟨og_5, List.forall_mem_append.mpr ⟨og_6, List.forall_mem_append.mpr ⟨og_7, List.forall_mem_append.mpr ⟨og_8, List.forall_mem_append.mpr ⟨og_9, List.forall_mem_append.mpr ⟨og_10, List.forall_mem_append.mpr ⟨og_11, List.forall_mem_append.mpr ⟨og_12, List.forall_mem_append.mpr ⟨og_13, List.forall_mem_append.mpr ⟨og_14, List.forall_mem_append.mpr ⟨og_15, og_16⟩⟩⟩⟩⟩⟩⟩⟩⟩⟩⟩⟩⟩⟩⟩⟩
theorem ix_plainP : ∀ M ∈ ix_tab, plainName (ix_my M).cls = true := by decide +kernel
theorem ix_noH : ∀ M ∈ ix_tabP, ix_mh M = [] := by decide +kernel
theorem ix_tabP_sub {M : ix_M} (h : M ∈ ix_tabP) : M ∈ ix_tab := by rw [ix_tabP_eq] at h; exact List.mem_of_mem_take h
theorem ix_lvargs : ∀ (vs : List Value) (i j : Nat) (v : Value), (∀ v ∈ vs, v.category = 1) → vs[j]? = some v → (i + j, v) ∈ lv_args i vs
  | [], i, j, v, _, h => by simp at h
  | a :: l, i, 0, v, hc, h => by
    cases h
    exact List.mem_cons_self
  | a :: l, i, j + 1, v, hc, h => by
    rw [lv_args, if_neg (by rw [hc a List.mem_cons_self]; decide)]
    refine List.mem_cons_of_mem _ ?_
    have := ix_lvargs l (i + 1) j v (fun x hx => hc x (List.mem_cons_of_mem _ hx)) h
    rw [show i + (j + 1) = i + 1 + j by omega]
    exact this
theorem ix_lgsl : ∀ (vs : List Value), (∀ v ∈ vs, v.category = 1) → (lg_sl vs).length = vs.length
  | [], _ => rfl
  | a :: l, hc => by
    have h1 := ix_lgsl l (fun x hx => hc x (List.mem_cons_of_mem _ hx))
    unfold lg_sl at h1 ⊢
    rw [List.flatMap_cons, if_neg (by rw [hc a List.mem_cons_self]; decide), List.length_append, h1]
    simp only [List.length_cons, List.length_nil]
    omega
theorem ix_Lh0 {ad : Nat → Nat} {vs : List Value} {n : Nat} (hc : ∀ v ∈ vs, v.category = 1) (hn : vs.length ≤ n) : ix_Lh ad ((lg_sl (vs.map (ix_cv ad)) ++ List.replicate (n - (lg_sl (vs.map (ix_cv ad))).length) Slot.unset).toArray) n (vs ++ List.replicate (n - vs.length) .null) := by
  have hc' : ∀ v ∈ vs.map (ix_cv ad), v.category = 1 := by
    intro v hv
    obtain ⟨w, hw, rfl⟩ := List.mem_map.mp hv
    rw [ix_cv_cat]
    exact hc w hw
  refine ⟨by rw [List.length_append, List.length_replicate]; omega, fun v hv => ?_, _, lv_entry (vs.map (ix_cv ad)) (by rw [ix_lgsl _ hc', List.length_map]; exact hn), fun i v hi hv => ?_⟩
  · rcases List.mem_append.mp hv with h | h
    · exact hc v h
    · rw [List.eq_of_mem_replicate h]; rfl
  · by_cases hl : i < vs.length
    · rw [List.getElem?_append_left hl] at hi
      have := ix_lvargs (vs.map (ix_cv ad)) 0 i (ix_cv ad v) hc' (by rw [List.getElem?_map, hi]; rfl)
      rw [Nat.zero_add] at this
      exact this
    · rw [List.getElem?_append_right (by omega)] at hi
      exact absurd (List.eq_of_mem_replicate (List.mem_of_getElem? hi)) hv
theorem ix_exec_ok {l : Launch} {D : va_G} {G : ix_G} {ad : Nat → Nat} {ids : List Nat} {dm : Nat → Bool} {lo : Nat} (hl : l.stackTraces = false) (hF : ix_Fx ad ids dm lo) {pr : Nat → List Value → ix_H → Option ix_R} (hpr : ∀ d mi vs h r, pr mi vs h = some r → ix_Ct D G ad ids lo l d mi vs h r) :
    ∀ (d f mi : Nat) (vs : List Value) (h : ix_H) (r : ix_R), ix_exec ix_tabP pr dm d f mi vs h = some r → ix_Ct D G ad ids lo l d mi vs h r := by
  intro d
  induction d with
  | zero => intro f mi vs h r hr; rw [ix_exec] at hr; cases hr
  | succ d ih =>
    intro f mi vs h r hr
    rw [ix_exec] at hr
    split at hr
    · exact hpr _ _ _ _ _ hr
    · rename_i M hM
      split at hr
      · rename_i hc
        have hcat : ∀ v ∈ vs, v.category = 1 := fun v hv => by simpa using List.all_eq_true.mp hc.2 v hv
        have hMp := List.mem_of_getElem? hM
        have hMt := ix_tabP_sub hMp
        have hmi : mi < 260 := by
          rw [ix_tabP_eq] at hM
          have := (List.getElem?_eq_some_iff.mp hM).1
          rw [List.length_take] at this
          omega
        have hMt2 : ix_tab[mi]? = some M := by rw [ix_tabP_eq, List.getElem?_take, if_pos hmi] at hM; exact hM
        have hok := ix_okP M hMp
        have hok' := hok
        unfold ix_okm at hok'
        simp only [Bool.and_eq_true, decide_eq_true_eq] at hok'
        obtain ⟨⟨⟨⟨⟨ok1, ok2⟩, ok3⟩, ok4⟩, ok5⟩, ok6⟩ := hok'
        intro q hq
        unfold ix_cal at hq
        rw [hMt2] at hq
        cases hq
        refine vx_ofW (cc := ix_mb M) (maxL := ix_ml M) (ret := ix_mr M) (ix_plainP M hMt) (ix_plain (q := (ix_my M, ix_mb M, ix_ml M, ix_mr M)) (Or.inl hmi)) ?_
        intro p e s m args below meth c s₁ B hml hno hpc
        obtain ⟨rfl, hSt⟩ := hpc
        obtain ⟨hP, hK, hE, hX⟩ := hSt
        have hts : ∀ w ∈ ix_gw, w.before (vs.map (ix_cv ad)).toArray s = true := fun w hw => atoms_spec (ws := ix_wsM mi (ix_my M, ix_mb M, ix_ml M, ix_mr M)) B.pre w (List.mem_cons_of_mem _ hw)
        have hown : s.vm.findClass (ix_cn (ix_mc M)) = some m.cls := by rw [ok6]; exact findClass_of_methodNamed B.named
        obtain ⟨o, ho⟩ := ix_run_some hr
        have hpc0 : ix_pc o = 0 := by
          rw [← List.head?_eq_getElem?] at ho
          rw [ho] at ok3
          exact Option.some.inj ok3
        have hL0 := ix_Lh0 (ad := ad) (n := ix_ml M) hcat (by rw [hc.1]; exact ok4)
        rw [hc.1] at hL0
        have hrun := ix_run_ok (D := D) (G := G) (ad := ad) (ids := ids) (dm := dm) (lo := lo) (d := d) (p := p) (e := e) (R := ix_rm (d + 1) r.2.2) (c0 := 0) (s0 := 0) (s := s) (m := m) (args := (vs.map (ix_cv ad)).toArray) (below := below) (meth := meth) (c := c) (r := r) hok (ix_okr_ok M hMt) (fun h11 => ix_noH M hMp) (ih f) hl hF (by unfold ix_rm; dsimp only; omega) B.exec B.bytes hml hown hts B.returns B.notSynchronized hK hE (fun _ => hno) (fun o x e9 _ hf => by rw [ix_noH M hMp] at hf; cases hf)
          f 0 _ [] h 0 hr o ho s.heap [] _ hL0 hP hX va_S.rf
        rw [lg_entry_eq]
        rw [hpc0] at hrun
        simp only [Nat.zero_add, Nat.mul_zero] at hrun
        exact hrun
      · cases hr
end
section
def ix_yPC : MethodName := ⟨"jdk/internal/util/Preconditions", "checkIndex", "(IILjava/util/function/BiFunction;)I"⟩
def ix_ySC : MethodName := ⟨"java/lang/String", "checkIndex", "(II)V"⟩
def ix_yLC : MethodName := ⟨"java/lang/StringLatin1", "charAt", "([BI)C"⟩
def ix_yIL : MethodName := ⟨"java/lang/String", "isLatin1", "()Z"⟩
def ix_yCO : MethodName := ⟨"java/lang/String", "coder", "()B"⟩
def ix_yLE : MethodName := ⟨"java/lang/String", "length", "()I"⟩
def ix_yCA : MethodName := ⟨"java/lang/String", "charAt", "(I)C"⟩
theorem jw_9 : Cond.fieldLink "java/lang/String" 9 "java/lang/String" "value" "[B" ∈ ix_gw := ix_gwm (ix_tbl (List.mem_append_right _ (List.mem_append_right _ (List.mem_append_right _ (List.mem_append_right _ (List.mem_append_right _ (List.mem_append_right _ (List.mem_append_right _ (List.mem_append_right _ (List.mem_of_getElem? (i := 38) rfl)))))))))) rfl
theorem jw_15 : Cond.fieldLink "java/lang/String" 15 "java/lang/String" "coder" "B" ∈ ix_gw := ix_gwm (ix_tbl (List.mem_append_right _ (List.mem_append_right _ (List.mem_append_right _ (List.mem_append_right _ (List.mem_append_right _ (List.mem_append_right _ (List.mem_append_right _ (List.mem_append_right _ (List.mem_of_getElem? (i := 39) rfl)))))))))) rfl
theorem jw_38 : Cond.fieldLink "java/lang/String" 38 "java/lang/String" "COMPACT_STRINGS" "Z" ∈ ix_gw := ix_gwm (ix_tbl (List.mem_append_right _ (List.mem_append_right _ (List.mem_append_left _ (List.mem_of_getElem? (i := 205) rfl))))) rfl
theorem jw_1053 : Cond.fieldLink "java/lang/String" 1053 "jdk/internal/util/Preconditions" "SIOOBE_FORMATTER" "Ljava/util/function/BiFunction;" ∈ ix_gw := ix_gwm (ix_tbl (List.mem_append_right _ (List.mem_append_right _ (List.mem_append_left _ (List.mem_of_getElem? (i := 221) rfl))))) rfl
theorem jm_CO : Cond.methodLink "java/lang/String" 335 ix_yCO ∈ ix_gw := ix_gwm (ix_tbl (List.mem_append_right _ (List.mem_append_right _ (List.mem_append_left _ (List.mem_of_getElem? (i := 201) rfl))))) rfl
theorem jm_IL : Cond.methodLink "java/lang/String" 492 ix_yIL ∈ ix_gw := ix_gwm (ix_tbl (List.mem_append_right _ (List.mem_append_right _ (List.mem_append_left _ (List.mem_of_getElem? (i := 211) rfl))))) rfl
theorem jm_LC : Cond.methodLink "java/lang/String" 495 ix_yLC ∈ ix_gw := ix_gwm (ix_tbl (List.mem_append_right _ (List.mem_append_right _ (List.mem_append_left _ (List.mem_of_getElem? (i := 215) rfl))))) rfl
theorem jm_SC : Cond.methodLink "java/lang/StringLatin1" 9 ix_ySC ∈ ix_gw := ix_gwm (ix_tbl (List.mem_append_right _ (List.mem_append_right _ (List.mem_append_left _ (List.mem_of_getElem? (i := 218) rfl))))) rfl
theorem jm_PC : Cond.methodLink "java/lang/String" 1059 ix_yPC ∈ ix_gw := ix_gwm (ix_tbl (List.mem_append_right _ (List.mem_append_right _ (List.mem_append_left _ (List.mem_of_getElem? (i := 223) rfl))))) rfl
theorem ji_CO : Cond.instanceMethod ix_yCO ∈ ix_gw := ix_gwm (ix_tbl (List.mem_append_right _ (List.mem_append_right _ (List.mem_append_left _ (List.mem_of_getElem? (i := 202) rfl))))) rfl
theorem js_CO : Cond.selects "java/lang/String" ix_yCO ix_yCO ∈ ix_gw := ix_gwm (ix_tbl (List.mem_append_right _ (List.mem_append_right _ (List.mem_append_left _ (List.mem_of_getElem? (i := 203) rfl))))) rfl
theorem ji_IL : Cond.instanceMethod ix_yIL ∈ ix_gw := ix_gwm (ix_tbl (List.mem_append_right _ (List.mem_append_right _ (List.mem_append_left _ (List.mem_of_getElem? (i := 212) rfl))))) rfl
theorem js_IL : Cond.selects "java/lang/String" ix_yIL ix_yIL ∈ ix_gw := ix_gwm (ix_tbl (List.mem_append_right _ (List.mem_append_right _ (List.mem_append_left _ (List.mem_of_getElem? (i := 213) rfl))))) rfl
theorem jt_LC : Cond.static ix_yLC ∈ ix_gw := ix_gwm (ix_tbl (List.mem_append_right _ (List.mem_append_right _ (List.mem_append_left _ (List.mem_of_getElem? (i := 216) rfl))))) rfl
theorem jt_SC : Cond.static ix_ySC ∈ ix_gw := ix_gwm (ix_tbl (List.mem_append_right _ (List.mem_append_right _ (List.mem_append_left _ (List.mem_of_getElem? (i := 219) rfl))))) rfl
theorem jt_PC : Cond.static ix_yPC ∈ ix_gw := ix_gwm (ix_tbl (List.mem_append_right _ (List.mem_append_right _ (List.mem_append_left _ (List.mem_of_getElem? (i := 224) rfl))))) rfl
theorem jn_S : Cond.initialized "java/lang/String" ∈ ix_gw := ix_gwm (ix_tbl (List.mem_append_left _ (List.mem_of_getElem? (i := 19) rfl))) rfl
theorem jn_L : Cond.initialized "java/lang/StringLatin1" ∈ ix_gw := ix_gwm (ix_tbl (List.mem_append_left _ (List.mem_of_getElem? (i := 20) rfl))) rfl
theorem jn_P : Cond.initialized "jdk/internal/util/Preconditions" ∈ ix_gw := ix_gwm (ix_tbl (List.mem_append_left _ (List.mem_of_getElem? (i := 21) rfl))) rfl
theorem jc_PC : Cond.code ix_yPC prog_31_method_11_code 3 (Option.some FieldType.int) ∈ ix_gw := ix_gwm (ix_tbl (List.mem_append_right _ (List.mem_append_right _ (List.mem_append_left _ (List.mem_of_getElem? (i := 225) rfl))))) rfl
theorem jc_SC : Cond.code ix_ySC prog_23_method_155_code 2 (Option.none : Option FieldType) ∈ ix_gw := ix_gwm (ix_tbl (List.mem_append_right _ (List.mem_append_right _ (List.mem_append_left _ (List.mem_of_getElem? (i := 220) rfl))))) rfl
theorem jc_LC : Cond.code ix_yLC prog_24_method_2_code 2 (Option.some FieldType.char) ∈ ix_gw := ix_gwm (ix_tbl (List.mem_append_right _ (List.mem_append_right _ (List.mem_append_left _ (List.mem_of_getElem? (i := 217) rfl))))) rfl
theorem jc_IL : Cond.code ix_yIL prog_23_method_154_code 1 (Option.some FieldType.boolean) ∈ ix_gw := ix_gwm (ix_tbl (List.mem_append_right _ (List.mem_append_right _ (List.mem_append_left _ (List.mem_of_getElem? (i := 214) rfl))))) rfl
theorem jc_CO : Cond.code ix_yCO prog_23_method_152_code 1 (Option.some FieldType.byte) ∈ ix_gw := ix_gwm (ix_tbl (List.mem_append_right _ (List.mem_append_right _ (List.mem_append_left _ (List.mem_of_getElem? (i := 204) rfl))))) rfl
def ix_r0 (n : Nat) : Room := { frames := n, cells := 0, slots := 0, locals := 41 * n }
section IXP
variable {l : Launch} {D : va_G} {G : ix_G} {ad : Nat → Nat} {ids : List Nat} {lo : Nat} {h : ix_H}
abbrev ix_Cp (l : Launch) (D : va_G) (G : ix_G) (ad : Nat → Nat) (ids : List Nat) (lo : Nat) (rm : Room) (h : ix_H) (y : MethodName) (b : ByteArray) (ml : Nat) (ret : Option FieldType) (vs : List Value) (v : Option Value) : Prop :=
  Met l y (.code y b ml ret :: ix_gw) rm (va_Pc vs (ix_St D G ad ids lo h)) (ix_Qc D G ad ids lo (.inl v, h, 0)) 0 0 (ix_A lo)
theorem ix_ent {y : MethodName} {b : ByteArray} {ml : Nat} {ret : Option FieldType} {vs : List Value} {v : Option Value} {rm : Room} (hy : plainName y.cls = true) (hvs : (lg_sl vs).length ≤ ml)
    (body : ∀ (p : Program) (e : Env) (s : State) (m : MethodId) (below : List Frame) (meth : Method) (c : Code), p.tables.exec = Jvm.exec → c.code = b → c.maxLocals = ml → meth.sig.returnType = ret → meth.locks = false → s.vm.findClass y.cls = some m.cls → (∀ w ∈ ix_gw, w.before vs.toArray s = true) → ix_St D G ad ids lo h s →
      ∀ ls : Array Slot, lv_has ls ml (lv_args 0 vs) → W p l e rm s m vs.toArray below meth c s.heap [] 0 0 (MQ below (ix_Qc D G ad ids lo (.inl v, h, 0)) vs.toArray s 0 0 (ix_A lo)) (F0 m 0 ls [])) : ix_Cp l D G ad ids lo rm h y b ml ret vs v := by
  refine Met.ofW (cc := b) (maxL := ml) (ret := ret) hy rfl ?_
  intro p e s m args below meth c s₁ B hml hv
  obtain ⟨rfl, hSt⟩ := hv
  have hts := atoms_spec (ws := .code y b ml ret :: ix_gw) B.pre
  rw [lg_entry_eq]
  exact body p e s m below meth c B.exec B.bytes hml B.returns B.notSynchronized (findClass_of_methodNamed B.named) (fun w hw => hts w (List.mem_cons_of_mem _ hw)) hSt _ (lv_entry vs hvs)
theorem ix_blind2 {vs : List Value} : FrameBlind (va_Pc vs (ix_St D G ad ids lo h)) := by
  intro a U g mk hp
  obtain ⟨h1, h2, h3, h4, h5⟩ := hp
  refine ⟨h1, h2, va_K.moved (u := U) (U := U.calling g mk a) (Vm.Alike.refl U.vm) h3, ?_, ?_⟩
  · exact ix_Es.moved (s := U) (U := U.calling g mk a) (State.WarmedH.refl U) h4
  · exact ix_SX.moved (s := U) (U := U.calling g mk a) (Vm.Alike.refl U.vm) h5
theorem ix_gj {w : Cond} (h : w ∈ ix_gw) : GoodIn ix_gw (w :: ix_gw) := by
  intro z hz
  rcases List.mem_cons.mp hz with rfl | hz
  · exact ⟨h, good_of_word (ix_gw_good h)⟩
  · exact ⟨hz, good_of_word (ix_gw_good hz)⟩
theorem ix_gjS {w : Cond} {own : String} {i : Nat} {y : MethodName} (h : w ∈ ix_gw) (h1 : Cond.methodLink own i y ∈ ix_gw) (h2 : Cond.static y ∈ ix_gw) (h3 : Cond.initialized y.cls ∈ ix_gw) : GoodIn ix_gw (va_wsS own i y (w :: ix_gw)) := by
  intro z hz
  unfold va_wsS at hz
  rcases List.mem_append.mp hz with hz | hz
  · simp only [List.mem_cons, List.not_mem_nil, or_false] at hz
    rcases hz with rfl | rfl | rfl
    · exact ⟨h1, good_of_word (ix_gw_good h1)⟩
    · exact ⟨h2, good_of_word (ix_gw_good h2)⟩
    · exact ⟨h3, good_of_word (ix_gw_good h3)⟩
  · exact ix_gj h z hz
theorem ix_gjV {w : Cond} {own C : String} {i : Nat} {y : MethodName} (h : w ∈ ix_gw) (h1 : Cond.methodLink own i y ∈ ix_gw) (h2 : Cond.instanceMethod y ∈ ix_gw) (h4 : Cond.selects C y y ∈ ix_gw) (h3 : Cond.initialized C ∈ ix_gw) : GoodIn ix_gw (wsV own i C y (w :: ix_gw)) := by
  intro z hz
  unfold wsV at hz
  rcases List.mem_append.mp hz with hz | hz
  · simp only [List.mem_cons, List.not_mem_nil, or_false] at hz
    rcases hz with rfl | rfl | rfl | rfl
    · exact ⟨h1, good_of_word (ix_gw_good h1)⟩
    · exact ⟨h2, good_of_word (ix_gw_good h2)⟩
    · exact ⟨h4, good_of_word (ix_gw_good h4)⟩
    · exact ⟨h3, good_of_word (ix_gw_good h3)⟩
  · exact ix_gj h z hz
theorem ix_cPC {i n : Int32} {x : Value} (hx0 : x.category = 1) (h1 : ¬ i < 0) (h2 : i < n) : ix_Cp l D G ad ids lo (ix_r0 0) h ix_yPC prog_31_method_11_code 3 (some .int) [.int i, .int n, x] (some (.int i)) := by
  refine ix_ent (by decide +kernel) ?_ ?_
  · rw [ix_lgsl _ (by intro v hv; simp only [List.mem_cons, List.not_mem_nil, or_false] at hv; rcases hv with rfl | rfl | rfl <;> first | rfl | exact hx0)]
    exact Nat.le_refl _
  · intro p e s m below meth c hx hb hml hr hlk hown hts hSt ls hl
    obtain ⟨hP, hK, hE, hX⟩ := hSt
    have hl : lv_has ls 3 [(0, .int i), (1, .int n), (2, x)] := hl
    refine lv_iload_n hx hb (show decode prog_31_method_11_code 0 = .ok (.iload_n 0, 1) by decide +kernel) rfl (lv_at hl 0 rfl) ?_
    refine lv_if_lt (tgt := 9) hx hb (show decode prog_31_method_11_code 1 = .ok (.ifCond .lt 8, 3) by decide +kernel) (by decide) (fun hc => absurd hc h1) (fun _ => ?_)
    refine lv_iload_n hx hb (show decode prog_31_method_11_code 4 = .ok (.iload_n 0, 1) by decide +kernel) rfl (lv_at hl 0 rfl) ?_
    refine lv_iload_n hx hb (show decode prog_31_method_11_code 5 = .ok (.iload_n 1, 1) by decide +kernel) rfl (lv_at hl 1 rfl) ?_
    refine lv_icmp_lt (tgt := 16) hx hb (show decode prog_31_method_11_code 6 = .ok (.if_icmp .lt 10, 3) by decide +kernel) (by decide) (fun _ => ?_) (fun hc => absurd h2 hc)
    refine lv_iload_n hx hb (show decode prog_31_method_11_code 16 = .ok (.iload_n 0, 1) by decide +kernel) rfl (lv_at hl 0 rfl) ?_
    exact W.zret hx hb hr rfl (fun t ht hW => ⟨some (.int i), rfl, rfl, ix_lend hP hE hX va_S.rf ht hW.alike⟩) (va_S.rf (A := ix_A lo) (H0 := s.heap)).2.2 (show decode prog_31_method_11_code 17 = .ok (.ireturn, 1) by decide +kernel) hlk
theorem ix_cSC {i n : Int32} (h1 : ¬ i < 0) (h2 : i < n) : ix_Cp l D G ad ids lo (ix_r0 1) h ix_ySC prog_23_method_155_code 2 none [.int i, .int n] none := by
  refine ix_ent (by decide +kernel) (Nat.le_of_ble_eq_true rfl) ?_
  · intro p e s m below meth c hx hb hml hr hlk hown hts hSt ls hl
    obtain ⟨hP, hK, hE, hX⟩ := hSt
    have hl : lv_has ls 2 [(0, .int i), (1, .int n)] := hl
    have key : ∀ x : Value, x.category = 1 → va_Z "jdk/internal/util/Preconditions" "SIOOBE_FORMATTER" "Ljava/util/function/BiFunction;" x (ix_A lo) s s.heap → W p l e (ix_r0 1) s m ([.int i, .int n] : List Value).toArray below meth c s.heap [] 0 0 (MQ below (ix_Qc D G ad ids lo (.inl none, h, 0)) ([.int i, .int n] : List Value).toArray s 0 0 (ix_A lo)) (F0 m 0 ls []) := by
      intro x hx0 hZ
      refine lv_iload_n hx hb (show decode prog_23_method_155_code 0 = .ok (.iload_n 0, 1) by decide +kernel) rfl (lv_at hl 0 rfl) ?_
      refine lv_iload_n hx hb (show decode prog_23_method_155_code 1 = .ok (.iload_n 1, 1) by decide +kernel) rfl (lv_at hl 1 rfl) ?_
      refine va_gets (A := ix_A lo) hx hb hZ va_S.rf hown (hts _ jw_1053) (fun _ h9 => h9) (show decode prog_23_method_155_code 2 = .ok (.getstatic 1053, 3) by decide +kernel) ?_
      have hrun := va_runS (e := e) (below := below) (meth := meth) (As := [.int i, .int n, x]) (rest := []) (H := s.heap) (locs := []) (cells := 0) (slots := 0) (R := ix_r0 1) (g := F0 m 5 ls [x, .int n, .int i]) ⟨hx, hb, hml, hown, hts⟩ (ix_cPC (l := l) (D := D) (G := G) (ad := ad) (ids := ids) (lo := lo) (h := h) hx0 h1 h2) (va_cwS 3 hts (ix_gjS jc_PC jm_PC jt_PC jn_P) rfl rfl rfl ⟨by decide +kernel, by decide +kernel, by decide +kernel⟩ ⟨Nat.le_of_ble_eq_true rfl, Nat.le_of_ble_eq_true rfl⟩) ⟨ix_blind2, fun U hU hW => ⟨rfl, ix_St.of hP hK hE hX va_S.rf hU hW⟩⟩ rfl rfl hl.1 rfl (lv_room (Nat.le_of_ble_eq_true rfl)) (show decode prog_23_method_155_code 5 = .ok (.invokestatic 1059, 3) by decide +kernel) ⟨Nat.le_of_ble_eq_true rfl, Nat.le_of_ble_eq_true rfl⟩
      refine ix_aft hE (ix_vaRun hrun) va_S.rf (fun v1 H1 locs1 e1 q1 q2 q3 => ?_) (fun x1 q9 ce H1 locs1 e1 => by cases e1)
      cases e1
      refine lv_pop hx hb (show decode prog_23_method_155_code 8 = .ok (.pop, 1) by decide +kernel) rfl ?_
      exact W.vret hx hb hr (fun t ht hW => ⟨none, rfl, rfl, ix_lend q1 hE q2 q3 ht hW.alike⟩) q3.2.2 (show decode prog_23_method_155_code 9 = .ok (.return_, 1) by decide +kernel) hlk
    obtain ⟨-, -, -, -, -, -, -, -, -, -, hz, -⟩ := id hE
    rcases hz with hz | ⟨t, hz⟩
    · exact key _ rfl hz
    · exact key _ rfl hz
theorem ix_cCO {i : Nat} (hi : i < 21) : ix_Cp l D G ad ids lo (ix_r0 0) h ix_yCO prog_23_method_152_code 1 (some .byte) [.ref (ad (2000 + i))] (some (.int 0)) := by
  refine ix_ent (by decide +kernel) (Nat.le_of_ble_eq_true rfl) ?_
  · intro p e s m below meth c hx hb hml hr hlk hown hts hSt ls hl
    obtain ⟨hP, hK, hE, hX⟩ := hSt
    have hl : lv_has ls 1 [(0, .ref (ad (2000 + i)))] := hl
    obtain ⟨-, -, -, -, -, -, -, -, ⟨adV, hvk⟩, hz, -⟩ := id hE
    refine va_gets (A := ix_A lo) hx hb hz va_S.rf hown (hts _ jw_38) (fun _ h9 => h9) (show decode prog_23_method_152_code 0 = .ok (.getstatic 38, 3) by decide +kernel) ?_
    refine lv_if_eq (tgt := 13) hx hb (show decode prog_23_method_152_code 3 = .ok (.ifCond .eq 10, 3) by decide +kernel) (by decide) (fun hc => absurd hc (by decide)) (fun _ => ?_)
    refine lv_aload_n hx hb (show decode prog_23_method_152_code 6 = .ok (.aload_n 0, 1) by decide +kernel) rfl (lv_at hl 0 rfl) ?_
    refine vk_getf (A := ix_A lo) hx hb (hvk.1 i hi).2.1 va_S.rf hown (hts _ jw_15) (fun _ h9 => h9) (show decode prog_23_method_152_code 7 = .ok (.getfield 15, 3) by decide +kernel) ?_
    refine lv_goto (tgt := 14) hx hb (show decode prog_23_method_152_code 10 = .ok (.goto 4, 3) by decide +kernel) (by decide) ?_
    exact W.zret hx hb hr rfl (fun t ht hW => ⟨some (.int 0), rfl, rfl, ix_lend hP hE hX va_S.rf ht hW.alike⟩) (va_S.rf (A := ix_A lo) (H0 := s.heap)).2.2 (show decode prog_23_method_152_code 14 = .ok (.ireturn, 1) by decide +kernel) hlk
theorem ix_cIL {i : Nat} (hi : i < 21) : ix_Cp l D G ad ids lo (ix_r0 0) h ix_yIL prog_23_method_154_code 1 (some .boolean) [.ref (ad (2000 + i))] (some (.int 1)) := by
  refine ix_ent (by decide +kernel) (Nat.le_of_ble_eq_true rfl) ?_
  · intro p e s m below meth c hx hb hml hr hlk hown hts hSt ls hl
    obtain ⟨hP, hK, hE, hX⟩ := hSt
    have hl : lv_has ls 1 [(0, .ref (ad (2000 + i)))] := hl
    obtain ⟨-, -, -, -, -, -, -, -, ⟨adV, hvk⟩, hz, -⟩ := id hE
    refine va_gets (A := ix_A lo) hx hb hz va_S.rf hown (hts _ jw_38) (fun _ h9 => h9) (show decode prog_23_method_154_code 0 = .ok (.getstatic 38, 3) by decide +kernel) ?_
    refine lv_if_eq (tgt := 17) hx hb (show decode prog_23_method_154_code 3 = .ok (.ifCond .eq 14, 3) by decide +kernel) (by decide) (fun hc => absurd hc (by decide)) (fun _ => ?_)
    refine lv_aload_n hx hb (show decode prog_23_method_154_code 6 = .ok (.aload_n 0, 1) by decide +kernel) rfl (lv_at hl 0 rfl) ?_
    refine vk_getf (A := ix_A lo) hx hb (hvk.1 i hi).2.1 va_S.rf hown (hts _ jw_15) (fun _ h9 => h9) (show decode prog_23_method_154_code 7 = .ok (.getfield 15, 3) by decide +kernel) ?_
    refine lv_if_ne (tgt := 17) hx hb (show decode prog_23_method_154_code 10 = .ok (.ifCond .ne 7, 3) by decide +kernel) (by decide) (fun hc => absurd rfl hc) (fun _ => ?_)
    refine lv_iconst (v := 1) hx hb (show decode prog_23_method_154_code 13 = .ok (.iconst 1, 1) by decide +kernel) (by decide) ?_
    refine lv_goto (tgt := 18) hx hb (show decode prog_23_method_154_code 14 = .ok (.goto 4, 3) by decide +kernel) (by decide) ?_
    exact W.zret hx hb hr rfl (fun t ht hW => ⟨some (.int 1), rfl, rfl, ix_lend hP hE hX va_S.rf ht hW.alike⟩) (va_S.rf (A := ix_A lo) (H0 := s.heap)).2.2 (show decode prog_23_method_154_code 18 = .ok (.ireturn, 1) by decide +kernel) hlk
def ix_chr (b : Int32) : Int32 := ((b &&& 255).toUInt32 % 65536).toInt32
abbrev ix_Bt (D : va_G) (G : ix_G) (ad : Nat → Nat) (ids : List Nat) (lo : Nat) (h : ix_H) (t N : Nat) (f : Nat → Int32) (U : State) : Prop := ix_St D G ad ids lo h U ∧ va_T .byte t N (fun k => .int (f k)) (ix_A lo) U U.heap
theorem ix_cLC {t N : Nat} {f : Nat → Int32} {j : Int32} (h1 : ¬ j < 0) (h2 : j < Int32.ofNat N) (h3 : vp_in j N) (h4 : narrow .char (.int (ix_chr (f j.toNatClampNeg))) = .int (ix_chr (f j.toNatClampNeg))) :
    Met l ix_yLC (.code ix_yLC prog_24_method_2_code 2 (some .char) :: ix_gw) (ix_r0 2) (va_Pc [.ref t, .int j] (ix_Bt D G ad ids lo h t N f)) (ix_Qc D G ad ids lo (.inl (some (.int (ix_chr (f j.toNatClampNeg)))), h, 0)) 0 0 (ix_A lo) := by
  refine Met.ofW (cc := prog_24_method_2_code) (maxL := 2) (ret := some .char) (by decide +kernel) rfl ?_
  intro p e s m args below meth c s₁ B hml hv
  obtain ⟨rfl, ⟨hP, hK, hE, hX⟩, hT⟩ := hv
  have hts0 := atoms_spec (ws := .code ix_yLC prog_24_method_2_code 2 (some .char) :: ix_gw) B.pre
  have hts : ∀ w ∈ ix_gw, w.before ([.ref t, .int j] : List Value).toArray s = true := fun w hw => hts0 w (List.mem_cons_of_mem _ hw)
  have hx := B.exec
  have hb := B.bytes
  have hr := B.returns
  have hlk := B.notSynchronized
  have hown : s.vm.findClass "java/lang/StringLatin1" = some m.cls := findClass_of_methodNamed B.named
  rw [lg_entry_eq]
  have hl := lv_entry ([.ref t, .int j]) (n := 2) (Nat.le_of_ble_eq_true rfl)
  generalize (lg_sl ([.ref t, .int j]) ++ List.replicate (2 - (lg_sl ([.ref t, .int j])).length) Slot.unset).toArray = ls at hl ⊢
  have hl : lv_has ls 2 [(0, .ref t), (1, .int j)] := hl
  refine lv_iload_n hx hb (show decode prog_24_method_2_code 0 = .ok (.iload_n 1, 1) by decide +kernel) rfl (lv_at hl 1 rfl) ?_
  refine lv_aload_n hx hb (show decode prog_24_method_2_code 1 = .ok (.aload_n 0, 1) by decide +kernel) rfl (lv_at hl 0 rfl) ?_
  refine va_tlen (A := ix_A lo) hx hb hT va_S.rf rfl (show decode prog_24_method_2_code 2 = .ok (.arraylength, 1) by decide +kernel) ?_
  have hrun := va_runS (e := e) (below := below) (meth := meth) (As := [.int j, .int (Int32.ofNat N)]) (rest := []) (H := s.heap) (locs := []) (cells := 0) (slots := 0) (R := ix_r0 2) (g := F0 m 3 ls [.int (Int32.ofNat N), .int j]) ⟨hx, hb, hml, hown, hts⟩ (ix_cSC (l := l) (D := D) (G := G) (ad := ad) (ids := ids) (lo := lo) (h := h) h1 h2) (va_cwS 2 hts (ix_gjS jc_SC jm_SC jt_SC jn_S) rfl rfl rfl ⟨by decide +kernel, by decide +kernel, by decide +kernel⟩ ⟨Nat.le_of_ble_eq_true rfl, Nat.le_of_ble_eq_true rfl⟩) ⟨ix_blind2, fun U hU hW => ⟨rfl, ix_St.of hP hK hE hX va_S.rf hU hW⟩⟩ rfl rfl hl.1 rfl (lv_room (Nat.le_of_ble_eq_true rfl)) (show decode prog_24_method_2_code 3 = .ok (.invokestatic 9, 3) by decide +kernel) ⟨Nat.le_of_ble_eq_true rfl, Nat.le_of_ble_eq_true rfl⟩
  refine ix_aft hE (ix_vaRun hrun) va_S.rf (fun v1 H1 locs1 e1 q1 q2 q3 => ?_) (fun x1 q9 ce H1 locs1 e1 => by cases e1)
  cases e1
  refine lv_aload_n hx hb (show decode prog_24_method_2_code 6 = .ok (.aload_n 0, 1) by decide +kernel) rfl (lv_at hl 0 rfl) ?_
  refine lv_iload_n hx hb (show decode prog_24_method_2_code 7 = .ok (.iload_n 1, 1) by decide +kernel) rfl (lv_at hl 1 rfl) ?_
  refine va_tb (A := ix_A lo) hx hb hT q3 h3 rfl (show decode prog_24_method_2_code 8 = .ok (.baload, 1) by decide +kernel) ?_
  refine lv_sipush (v := 255) hx hb (show decode prog_24_method_2_code 9 = .ok (.sipush 255, 3) by decide +kernel) (by decide) ?_
  refine lv_iand hx hb (show decode prog_24_method_2_code 12 = .ok (.iand, 1) by decide +kernel) ?_
  refine lv_i2c hx hb (show decode prog_24_method_2_code 13 = .ok (.i2c, 1) by decide +kernel) rfl ?_
  exact W.zret hx hb hr h4 (fun t ht hW => ⟨some (.int (ix_chr (f j.toNatClampNeg))), rfl, rfl, ix_lend q1 hE q2 q3 ht hW.alike⟩) q3.2.2 (show decode prog_24_method_2_code 14 = .ok (.ireturn, 1) by decide +kernel) hlk
theorem ix_blind3 {vs : List Value} {t N : Nat} {f : Nat → Int32} : FrameBlind (va_Pc vs (ix_Bt D G ad ids lo h t N f)) := by
  intro a U g mk hp
  obtain ⟨h1, h2, h3⟩ := hp
  exact ⟨h1, (ix_blind2 (vs := vs) a U g mk ⟨h1, h2⟩).2, va_T.moved (u := U) (U := U.calling g mk a) (Vm.Alike.refl U.vm) h3⟩
theorem ix_cLE {i d : Nat} (hi : i < 21) : ix_Cp l D G ad ids lo (ix_rm d 0) h ix_yLE prog_23_method_54_code 1 (some .int) [.ref (ad (2000 + i))] (some (.int (Int32.ofNat (ix_txL.getD i 0)))) := by
  refine ix_ent (by decide +kernel) (Nat.le_of_ble_eq_true rfl) ?_
  · intro p e s m below meth c hx hb hml hr hlk hown hts hSt ls hl
    obtain ⟨hP, hK, hE, hX⟩ := hSt
    have hl : lv_has ls 1 [(0, .ref (ad (2000 + i)))] := hl
    obtain ⟨-, -, -, -, -, -, -, -, ⟨adV, hvk⟩, hz, -⟩ := id hE
    refine lv_aload_n hx hb (show decode prog_23_method_54_code 0 = .ok (.aload_n 0, 1) by decide +kernel) rfl (lv_at hl 0 rfl) ?_
    refine vk_getf (A := ix_A lo) hx hb (hvk.1 i hi).2.2.1 va_S.rf hown (hts _ jw_9) (fun _ h9 => h9) (show decode prog_23_method_54_code 1 = .ok (.getfield 9, 3) by decide +kernel) ?_
    refine va_tlen (A := ix_A lo) hx hb (hvk.1 i hi).2.2.2 va_S.rf rfl (show decode prog_23_method_54_code 4 = .ok (.arraylength, 1) by decide +kernel) ?_
    refine lv_aload_n hx hb (show decode prog_23_method_54_code 5 = .ok (.aload_n 0, 1) by decide +kernel) rfl (lv_at hl 0 rfl) ?_
    have hrun := va_runV (e := e) (below := below) (meth := meth) (As := []) (rest := [.int (Int32.ofNat (ix_txL.getD i 0))]) (H := s.heap) (locs := []) (cells := 0) (slots := 0) (R := ix_rm d 0) (g := F0 m 6 ls [.ref (ad (2000 + i)), .int (Int32.ofNat (ix_txL.getD i 0))]) ⟨hx, hb, hml, hown, hts⟩ (ix_cCO (l := l) (D := D) (G := G) (ad := ad) (ids := ids) (lo := lo) (h := h) hi) (cwV 0 hts (ix_gjV jc_CO jm_CO ji_CO js_CO jn_S) rfl rfl rfl ⟨rfl, by decide +kernel, by decide +kernel, by decide +kernel⟩ ⟨by show 0 + 1 ≤ d + 12; omega, by show 8 + (1 + 11) + 41 * 0 ≤ 41 * d + 300; omega⟩) ⟨ix_blind2, vk_recv hvk hi va_S.rf, fun U hU hW => ⟨rfl, ix_St.of hP hK hE hX va_S.rf hU hW⟩⟩ rfl rfl hl.1 rfl (lv_room (Nat.le_of_ble_eq_true rfl)) (show decode prog_23_method_54_code 6 = .ok (.invokevirtual 335, 3) by decide +kernel) ⟨Nat.le_of_ble_eq_true rfl, Nat.le_of_ble_eq_true rfl⟩
    refine ix_aft hE (ix_vaRun hrun) va_S.rf (fun v1 H1 locs1 e1 q1 q2 q3 => ?_) (fun x1 q9 ce H1 locs1 e1 => by cases e1)
    cases e1
    refine lv_ishr hx hb (show decode prog_23_method_54_code 9 = .ok (.ishr, 1) by decide +kernel) ?_
    rw [sb_shr0]
    exact W.zret hx hb hr rfl (fun t ht hW => ⟨_, rfl, rfl, ix_lend q1 hE q2 q3 ht hW.alike⟩) q3.2.2 (show decode prog_23_method_54_code 10 = .ok (.ireturn, 1) by decide +kernel) hlk
theorem ix_cCA {i d : Nat} {j : Int32} (hi : i < 21) (h1 : ¬ j < 0) (h2 : j < Int32.ofNat (ix_txL.getD i 0)) (h3 : vp_in j (ix_txL.getD i 0)) (h4 : narrow .char (.int (ix_chr ((ix_txB.getD i []).getD j.toNatClampNeg 0))) = .int (ix_chr ((ix_txB.getD i []).getD j.toNatClampNeg 0))) :
    ix_Cp l D G ad ids lo (ix_rm d 0) h ix_yCA prog_23_method_56_code 2 (some .char) [.ref (ad (2000 + i)), .int j] (some (.int (ix_chr ((ix_txB.getD i []).getD j.toNatClampNeg 0)))) := by
  refine ix_ent (by decide +kernel) (Nat.le_of_ble_eq_true rfl) ?_
  · intro p e s m below meth c hx hb hml hr hlk hown hts hSt ls hl
    obtain ⟨hP, hK, hE, hX⟩ := hSt
    have hl : lv_has ls 2 [(0, .ref (ad (2000 + i))), (1, .int j)] := hl
    obtain ⟨-, -, -, -, -, -, -, -, ⟨adV, hvk⟩, hz, -⟩ := id hE
    refine lv_aload_n hx hb (show decode prog_23_method_56_code 0 = .ok (.aload_n 0, 1) by decide +kernel) rfl (lv_at hl 0 rfl) ?_
    have hrun := va_runV (e := e) (below := below) (meth := meth) (As := []) (rest := []) (H := s.heap) (locs := []) (cells := 0) (slots := 0) (R := ix_rm d 0) (g := F0 m 1 ls [.ref (ad (2000 + i))]) ⟨hx, hb, hml, hown, hts⟩ (ix_cIL (l := l) (D := D) (G := G) (ad := ad) (ids := ids) (lo := lo) (h := h) hi) (cwV 0 hts (ix_gjV jc_IL jm_IL ji_IL js_IL jn_S) rfl rfl rfl ⟨rfl, by decide +kernel, by decide +kernel, by decide +kernel⟩ ⟨by show 0 + 1 ≤ d + 12; omega, by show 8 + (1 + 11) + 41 * 0 ≤ 41 * d + 300; omega⟩) ⟨ix_blind2, vk_recv hvk hi va_S.rf, fun U hU hW => ⟨rfl, ix_St.of hP hK hE hX va_S.rf hU hW⟩⟩ rfl rfl hl.1 rfl (lv_room (Nat.le_of_ble_eq_true rfl)) (show decode prog_23_method_56_code 1 = .ok (.invokevirtual 492, 3) by decide +kernel) ⟨Nat.le_of_ble_eq_true rfl, Nat.le_of_ble_eq_true rfl⟩
    refine ix_aft hE (ix_vaRun hrun) va_S.rf (fun v1 H1 locs1 e1 q1 q2 q3 => ?_) (fun x1 q9 ce H1 locs1 e1 => by cases e1)
    cases e1
    refine lv_if_eq (tgt := 16) hx hb (show decode prog_23_method_56_code 4 = .ok (.ifCond .eq 12, 3) by decide +kernel) (by decide) (fun hc => absurd hc (by decide)) (fun _ => ?_)
    refine lv_aload_n hx hb (show decode prog_23_method_56_code 7 = .ok (.aload_n 0, 1) by decide +kernel) rfl (lv_at hl 0 rfl) ?_
    refine vk_getf (A := ix_A lo) hx hb (hvk.1 i hi).2.2.1 q3 hown (hts _ jw_9) (fun _ h9 => h9) (show decode prog_23_method_56_code 8 = .ok (.getfield 9, 3) by decide +kernel) ?_
    refine lv_iload_n hx hb (show decode prog_23_method_56_code 11 = .ok (.iload_n 1, 1) by decide +kernel) rfl (lv_at hl 1 rfl) ?_
    have hrun2 := va_runS (e := e) (below := below) (meth := meth) (As := [.ref (adV i), .int j]) (rest := []) (H := H1) (locs := locs1) (cells := 0) (slots := 0) (R := ix_rm d 0) (g := F0 m 12 ls [.int j, .ref (adV i)]) ⟨hx, hb, hml, hown, hts⟩ (ix_cLC (l := l) (D := D) (G := G) (ad := ad) (ids := ids) (lo := lo) (h := h) (t := adV i) (N := ix_txL.getD i 0) (f := fun k => (ix_txB.getD i []).getD k 0) h1 h2 h3 h4) (va_cwS 2 hts (ix_gjS jc_LC jm_LC jt_LC jn_L) rfl rfl rfl ⟨by decide +kernel, by decide +kernel, by decide +kernel⟩ ⟨by show 2 + 1 ≤ d + 12; omega, by show 8 + (2 + 11) + 41 * 2 ≤ 41 * d + 300; omega⟩) ⟨ix_blind3, fun U hU hW => ⟨rfl, ix_St.of q1 hK hE q2 q3 hU hW, by rw [hU]; exact va_T.moved hW.alike ((hvk.1 i hi).2.2.2.kept q3.2.1)⟩⟩ rfl rfl hl.1 rfl (lv_room (Nat.le_of_ble_eq_true rfl)) (show decode prog_23_method_56_code 12 = .ok (.invokestatic 495, 3) by decide +kernel) ⟨Nat.le_of_ble_eq_true rfl, Nat.le_of_ble_eq_true rfl⟩
    refine ix_aft hE (ix_vaRun hrun2) q3 (fun v1 H1 locs1 e1 q1 q2 q3 => ?_) (fun x1 q9 ce H1 locs1 e1 => by cases e1)
    cases e1
    exact W.zret hx hb hr h4 (fun t ht hW => ⟨_, rfl, rfl, ix_lend q1 hE q2 q3 ht hW.alike⟩) q3.2.2 (show decode prog_23_method_56_code 15 = .ok (.ireturn, 1) by decide +kernel) hlk
end IXP
end
