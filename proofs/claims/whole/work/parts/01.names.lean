-- ===== PART A: goes FIRST, ahead of the names: the tables' words, and 'selects' of the private methods out of them =====
/-- a private method of a class that the tables say can be made, by its rows of tables_1 -/
def lw_okq (q : MethodName × Nat) : Prop := (q.1.cls ≠ "java/lang/invoke/MethodHandle" ∧ q.1.cls ≠ "java/lang/invoke/VarHandle") ∧ Cond.instantiable q.1.cls q.2 ∈ tables_1 ∧ Cond.privateMethod q.1 ∈ tables_1 ∧ Cond.instanceMethod q.1 ∈ tables_1
theorem lw_p0 : lw_okq (⟨"DeltaRoad", "forget", "()V"⟩, 11) := ⟨⟨by decide +kernel, by decide +kernel⟩, List.mem_of_getElem? (i := 17) (by decide +kernel), List.mem_of_getElem? (i := 245) (by decide +kernel), List.mem_of_getElem? (i := 246) (by decide +kernel)⟩
theorem lw_p1 : lw_okq (⟨"DeltaRoad", "waterNow", "()LDeltaRoad$Water;"⟩, 11) := ⟨⟨by decide +kernel, by decide +kernel⟩, List.mem_of_getElem? (i := 17) (by decide +kernel), List.mem_of_getElem? (i := 253) (by decide +kernel), List.mem_of_getElem? (i := 254) (by decide +kernel)⟩
theorem lw_p2 : lw_okq (⟨"DeltaRoad$Water", "reach", "(LDeltaRoad$Ground;II)V"⟩, 4) := ⟨⟨by decide +kernel, by decide +kernel⟩, List.mem_of_getElem? (i := 134) (by decide +kernel), List.mem_of_getElem? (i := 262) (by decide +kernel), List.mem_of_getElem? (i := 263) (by decide +kernel)⟩
theorem lw_p3 : lw_okq (⟨"DeltaRoad", "costOf", "(I)I"⟩, 11) := ⟨⟨by decide +kernel, by decide +kernel⟩, List.mem_of_getElem? (i := 17) (by decide +kernel), List.mem_of_getElem? (i := 273) (by decide +kernel), List.mem_of_getElem? (i := 274) (by decide +kernel)⟩
theorem lw_p4 : lw_okq (⟨"DeltaRoad", "bearingOf", "(I)I"⟩, 11) := ⟨⟨by decide +kernel, by decide +kernel⟩, List.mem_of_getElem? (i := 17) (by decide +kernel), List.mem_of_getElem? (i := 282) (by decide +kernel), List.mem_of_getElem? (i := 283) (by decide +kernel)⟩
theorem lw_p5 : lw_okq (⟨"DeltaRoad", "runFlood", "()I"⟩, 11) := ⟨⟨by decide +kernel, by decide +kernel⟩, List.mem_of_getElem? (i := 17) (by decide +kernel), List.mem_of_getElem? (i := 300) (by decide +kernel), List.mem_of_getElem? (i := 301) (by decide +kernel)⟩
theorem lw_p6 : lw_okq (⟨"DeltaRoad$Tape", "take", "(C)Z"⟩, 3) := ⟨⟨by decide +kernel, by decide +kernel⟩, List.mem_of_getElem? (i := 154) (by decide +kernel), List.mem_of_getElem? (i := 339) (by decide +kernel), List.mem_of_getElem? (i := 340) (by decide +kernel)⟩
theorem lw_p7 : lw_okq (⟨"DeltaRoad$Tape", "ended", "()Z"⟩, 3) := ⟨⟨by decide +kernel, by decide +kernel⟩, List.mem_of_getElem? (i := 154) (by decide +kernel), List.mem_of_getElem? (i := 343) (by decide +kernel), List.mem_of_getElem? (i := 344) (by decide +kernel)⟩
theorem lw_p8 : lw_okq (⟨"DeltaRoad$Tape", "skipBlanks", "()V"⟩, 3) := ⟨⟨by decide +kernel, by decide +kernel⟩, List.mem_of_getElem? (i := 154) (by decide +kernel), List.mem_of_getElem? (i := 347) (by decide +kernel), List.mem_of_getElem? (i := 348) (by decide +kernel)⟩
theorem lw_p9 : lw_okq (⟨"DeltaRoad$Tape", "fault", "()I"⟩, 3) := ⟨⟨by decide +kernel, by decide +kernel⟩, List.mem_of_getElem? (i := 154) (by decide +kernel), List.mem_of_getElem? (i := 351) (by decide +kernel), List.mem_of_getElem? (i := 352) (by decide +kernel)⟩
theorem lw_p10 : lw_okq (⟨"DeltaRoad$Tape", "readRow", "(LDeltaRoad$Ground;I)I"⟩, 3) := ⟨⟨by decide +kernel, by decide +kernel⟩, List.mem_of_getElem? (i := 154) (by decide +kernel), List.mem_of_getElem? (i := 355) (by decide +kernel), List.mem_of_getElem? (i := 356) (by decide +kernel)⟩
theorem lw_p11 : lw_okq (⟨"DeltaRoad$Tape", "takeDigit", "(I)I"⟩, 3) := ⟨⟨by decide +kernel, by decide +kernel⟩, List.mem_of_getElem? (i := 154) (by decide +kernel), List.mem_of_getElem? (i := 359) (by decide +kernel), List.mem_of_getElem? (i := 360) (by decide +kernel)⟩
theorem lw_p12 : lw_okq (⟨"DeltaRoad$Tape", "readVillage", "(LDeltaRoad$Villages;)Z"⟩, 3) := ⟨⟨by decide +kernel, by decide +kernel⟩, List.mem_of_getElem? (i := 154) (by decide +kernel), List.mem_of_getElem? (i := 378) (by decide +kernel), List.mem_of_getElem? (i := 379) (by decide +kernel)⟩
theorem lw_p13 : lw_okq (⟨"DeltaRoad$Tape", "takeNumber", "(I)I"⟩, 3) := ⟨⟨by decide +kernel, by decide +kernel⟩, List.mem_of_getElem? (i := 154) (by decide +kernel), List.mem_of_getElem? (i := 382) (by decide +kernel), List.mem_of_getElem? (i := 383) (by decide +kernel)⟩
theorem lw_p14 : lw_okq (⟨"DeltaRoad", "noSet", "(I)Z"⟩, 11) := ⟨⟨by decide +kernel, by decide +kernel⟩, List.mem_of_getElem? (i := 17) (by decide +kernel), List.mem_of_getElem? (i := 431) (by decide +kernel), List.mem_of_getElem? (i := 432) (by decide +kernel)⟩
theorem lw_p15 : lw_okq (⟨"DeltaRoad", "planNow", "()LDeltaRoad$Plan;"⟩, 11) := ⟨⟨by decide +kernel, by decide +kernel⟩, List.mem_of_getElem? (i := 17) (by decide +kernel), List.mem_of_getElem? (i := 439) (by decide +kernel), List.mem_of_getElem? (i := 440) (by decide +kernel)⟩
def lw_privs_1 : List (MethodName × Nat) := [(⟨"DeltaRoad", "forget", "()V"⟩, 11), (⟨"DeltaRoad", "waterNow", "()LDeltaRoad$Water;"⟩, 11), (⟨"DeltaRoad$Water", "reach", "(LDeltaRoad$Ground;II)V"⟩, 4), (⟨"DeltaRoad", "costOf", "(I)I"⟩, 11), (⟨"DeltaRoad", "bearingOf", "(I)I"⟩, 11), (⟨"DeltaRoad", "runFlood", "()I"⟩, 11), (⟨"DeltaRoad$Tape", "take", "(C)Z"⟩, 3), (⟨"DeltaRoad$Tape", "ended", "()Z"⟩, 3), (⟨"DeltaRoad$Tape", "skipBlanks", "()V"⟩, 3), (⟨"DeltaRoad$Tape", "fault", "()I"⟩, 3), (⟨"DeltaRoad$Tape", "readRow", "(LDeltaRoad$Ground;I)I"⟩, 3), (⟨"DeltaRoad$Tape", "takeDigit", "(I)I"⟩, 3), (⟨"DeltaRoad$Tape", "readVillage", "(LDeltaRoad$Villages;)Z"⟩, 3), (⟨"DeltaRoad$Tape", "takeNumber", "(I)I"⟩, 3), (⟨"DeltaRoad", "noSet", "(I)Z"⟩, 11), (⟨"DeltaRoad", "planNow", "()LDeltaRoad$Plan;"⟩, 11)]
theorem lw_r1 : ∀ q ∈ lw_privs_1, lw_okq q := List.forall_mem_cons.mpr ⟨lw_p0, List.forall_mem_cons.mpr ⟨lw_p1, List.forall_mem_cons.mpr ⟨lw_p2, List.forall_mem_cons.mpr ⟨lw_p3, List.forall_mem_cons.mpr ⟨lw_p4, List.forall_mem_cons.mpr ⟨lw_p5, List.forall_mem_cons.mpr ⟨lw_p6, List.forall_mem_cons.mpr ⟨lw_p7, List.forall_mem_cons.mpr ⟨lw_p8, List.forall_mem_cons.mpr ⟨lw_p9, List.forall_mem_cons.mpr ⟨lw_p10, List.forall_mem_cons.mpr ⟨lw_p11, List.forall_mem_cons.mpr ⟨lw_p12, List.forall_mem_cons.mpr ⟨lw_p13, List.forall_mem_cons.mpr ⟨lw_p14, List.forall_mem_cons.mpr ⟨lw_p15, fun _ h => absurd h List.not_mem_nil⟩⟩⟩⟩⟩⟩⟩⟩⟩⟩⟩⟩⟩⟩⟩⟩
theorem lw_p16 : lw_okq (⟨"DeltaRoad$Plan", "settleParts", "(I)V"⟩, 10) := ⟨⟨by decide +kernel, by decide +kernel⟩, List.mem_of_getElem? (i := 443) (by decide +kernel), List.mem_of_getElem? (i := 501) (by decide +kernel), List.mem_of_getElem? (i := 502) (by decide +kernel)⟩
theorem lw_p17 : lw_okq (⟨"DeltaRoad$Plan", "enter", "([II)V"⟩, 10) := ⟨⟨by decide +kernel, by decide +kernel⟩, List.mem_of_getElem? (i := 443) (by decide +kernel), List.mem_of_getElem? (i := 505) (by decide +kernel), List.mem_of_getElem? (i := 506) (by decide +kernel)⟩
theorem lw_p18 : lw_okq (⟨"DeltaRoad$Plan", "spread", "([I)V"⟩, 10) := ⟨⟨by decide +kernel, by decide +kernel⟩, List.mem_of_getElem? (i := 443) (by decide +kernel), List.mem_of_getElem? (i := 515) (by decide +kernel), List.mem_of_getElem? (i := 516) (by decide +kernel)⟩
theorem lw_p19 : lw_okq (⟨"DeltaRoad$Plan", "queueUp", "(I)V"⟩, 10) := ⟨⟨by decide +kernel, by decide +kernel⟩, List.mem_of_getElem? (i := 443) (by decide +kernel), List.mem_of_getElem? (i := 519) (by decide +kernel), List.mem_of_getElem? (i := 520) (by decide +kernel)⟩
theorem lw_p20 : lw_okq (⟨"DeltaRoad$Plan", "ease", "([III)V"⟩, 10) := ⟨⟨by decide +kernel, by decide +kernel⟩, List.mem_of_getElem? (i := 443) (by decide +kernel), List.mem_of_getElem? (i := 523) (by decide +kernel), List.mem_of_getElem? (i := 524) (by decide +kernel)⟩
theorem lw_p21 : lw_okq (⟨"DeltaRoad", "worthBy", "(LDeltaRoad$Plan;I)I"⟩, 11) := ⟨⟨by decide +kernel, by decide +kernel⟩, List.mem_of_getElem? (i := 17) (by decide +kernel), List.mem_of_getElem? (i := 532) (by decide +kernel), List.mem_of_getElem? (i := 533) (by decide +kernel)⟩
theorem lw_p22 : lw_okq (⟨"DeltaRoad", "costOfRoad", "()I"⟩, 11) := ⟨⟨by decide +kernel, by decide +kernel⟩, List.mem_of_getElem? (i := 17) (by decide +kernel), List.mem_of_getElem? (i := 606) (by decide +kernel), List.mem_of_getElem? (i := 607) (by decide +kernel)⟩
theorem lw_p23 : lw_okq (⟨"DeltaRoad", "servedByRoad", "()I"⟩, 11) := ⟨⟨by decide +kernel, by decide +kernel⟩, List.mem_of_getElem? (i := 17) (by decide +kernel), List.mem_of_getElem? (i := 610) (by decide +kernel), List.mem_of_getElem? (i := 611) (by decide +kernel)⟩
theorem lw_p24 : lw_okq (⟨"DeltaRoad", "leastGoingLevel", "()I"⟩, 11) := ⟨⟨by decide +kernel, by decide +kernel⟩, List.mem_of_getElem? (i := 17) (by decide +kernel), List.mem_of_getElem? (i := 640) (by decide +kernel), List.mem_of_getElem? (i := 641) (by decide +kernel)⟩
theorem lw_p25 : lw_okq (⟨"DeltaRoadModel", "findWet", "(I)V"⟩, 30) := ⟨⟨by decide +kernel, by decide +kernel⟩, List.mem_of_getElem? (i := 750) (by decide +kernel), List.mem_of_getElem? (i := 867) (by decide +kernel), List.mem_of_getElem? (i := 868) (by decide +kernel)⟩
theorem lw_p26 : lw_okq (⟨"DeltaRoadModel", "soak", "(II)V"⟩, 30) := ⟨⟨by decide +kernel, by decide +kernel⟩, List.mem_of_getElem? (i := 750) (by decide +kernel), List.mem_of_getElem? (i := 871) (by decide +kernel), List.mem_of_getElem? (i := 872) (by decide +kernel)⟩
theorem lw_p27 : lw_okq (⟨"DeltaRoadModel", "top", "(I)I"⟩, 30) := ⟨⟨by decide +kernel, by decide +kernel⟩, List.mem_of_getElem? (i := 750) (by decide +kernel), List.mem_of_getElem? (i := 875) (by decide +kernel), List.mem_of_getElem? (i := 876) (by decide +kernel)⟩
theorem lw_p28 : lw_okq (⟨"DeltaRoadModel", "waterAt", "(II)I"⟩, 30) := ⟨⟨by decide +kernel, by decide +kernel⟩, List.mem_of_getElem? (i := 750) (by decide +kernel), List.mem_of_getElem? (i := 882) (by decide +kernel), List.mem_of_getElem? (i := 883) (by decide +kernel)⟩
theorem lw_p29 : lw_okq (⟨"DeltaRoadModel", "costOf", "(I)I"⟩, 30) := ⟨⟨by decide +kernel, by decide +kernel⟩, List.mem_of_getElem? (i := 750) (by decide +kernel), List.mem_of_getElem? (i := 886) (by decide +kernel), List.mem_of_getElem? (i := 887) (by decide +kernel)⟩
theorem lw_p30 : lw_okq (⟨"DeltaRoadModel", "bears", "(I)I"⟩, 30) := ⟨⟨by decide +kernel, by decide +kernel⟩, List.mem_of_getElem? (i := 750) (by decide +kernel), List.mem_of_getElem? (i := 893) (by decide +kernel), List.mem_of_getElem? (i := 894) (by decide +kernel)⟩
theorem lw_p31 : lw_okq (⟨"DeltaRoadModel", "floodNow", "()I"⟩, 30) := ⟨⟨by decide +kernel, by decide +kernel⟩, List.mem_of_getElem? (i := 750) (by decide +kernel), List.mem_of_getElem? (i := 906) (by decide +kernel), List.mem_of_getElem? (i := 907) (by decide +kernel)⟩
def lw_privs_2 : List (MethodName × Nat) := [(⟨"DeltaRoad$Plan", "settleParts", "(I)V"⟩, 10), (⟨"DeltaRoad$Plan", "enter", "([II)V"⟩, 10), (⟨"DeltaRoad$Plan", "spread", "([I)V"⟩, 10), (⟨"DeltaRoad$Plan", "queueUp", "(I)V"⟩, 10), (⟨"DeltaRoad$Plan", "ease", "([III)V"⟩, 10), (⟨"DeltaRoad", "worthBy", "(LDeltaRoad$Plan;I)I"⟩, 11), (⟨"DeltaRoad", "costOfRoad", "()I"⟩, 11), (⟨"DeltaRoad", "servedByRoad", "()I"⟩, 11), (⟨"DeltaRoad", "leastGoingLevel", "()I"⟩, 11), (⟨"DeltaRoadModel", "findWet", "(I)V"⟩, 30), (⟨"DeltaRoadModel", "soak", "(II)V"⟩, 30), (⟨"DeltaRoadModel", "top", "(I)I"⟩, 30), (⟨"DeltaRoadModel", "waterAt", "(II)I"⟩, 30), (⟨"DeltaRoadModel", "costOf", "(I)I"⟩, 30), (⟨"DeltaRoadModel", "bears", "(I)I"⟩, 30), (⟨"DeltaRoadModel", "floodNow", "()I"⟩, 30)]
theorem lw_r2 : ∀ q ∈ lw_privs_2, lw_okq q := List.forall_mem_cons.mpr ⟨lw_p16, List.forall_mem_cons.mpr ⟨lw_p17, List.forall_mem_cons.mpr ⟨lw_p18, List.forall_mem_cons.mpr ⟨lw_p19, List.forall_mem_cons.mpr ⟨lw_p20, List.forall_mem_cons.mpr ⟨lw_p21, List.forall_mem_cons.mpr ⟨lw_p22, List.forall_mem_cons.mpr ⟨lw_p23, List.forall_mem_cons.mpr ⟨lw_p24, List.forall_mem_cons.mpr ⟨lw_p25, List.forall_mem_cons.mpr ⟨lw_p26, List.forall_mem_cons.mpr ⟨lw_p27, List.forall_mem_cons.mpr ⟨lw_p28, List.forall_mem_cons.mpr ⟨lw_p29, List.forall_mem_cons.mpr ⟨lw_p30, List.forall_mem_cons.mpr ⟨lw_p31, fun _ h => absurd h List.not_mem_nil⟩⟩⟩⟩⟩⟩⟩⟩⟩⟩⟩⟩⟩⟩⟩⟩
theorem lw_p32 : lw_okq (⟨"DeltaRoadModel", "allWeights", "()I"⟩, 30) := ⟨⟨by decide +kernel, by decide +kernel⟩, List.mem_of_getElem? (i := 750) (by decide +kernel), List.mem_of_getElem? (i := 914) (by decide +kernel), List.mem_of_getElem? (i := 915) (by decide +kernel)⟩
theorem lw_p33 : lw_okq (⟨"DeltaRoadModel", "readDelta", "()Z"⟩, 30) := ⟨⟨by decide +kernel, by decide +kernel⟩, List.mem_of_getElem? (i := 750) (by decide +kernel), List.mem_of_getElem? (i := 930) (by decide +kernel), List.mem_of_getElem? (i := 931) (by decide +kernel)⟩
theorem lw_p34 : lw_okq (⟨"DeltaRoadModel", "readRow", "(I)I"⟩, 30) := ⟨⟨by decide +kernel, by decide +kernel⟩, List.mem_of_getElem? (i := 750) (by decide +kernel), List.mem_of_getElem? (i := 934) (by decide +kernel), List.mem_of_getElem? (i := 935) (by decide +kernel)⟩
theorem lw_p35 : lw_okq (⟨"DeltaRoadModel", "nextByte", "()I"⟩, 30) := ⟨⟨by decide +kernel, by decide +kernel⟩, List.mem_of_getElem? (i := 750) (by decide +kernel), List.mem_of_getElem? (i := 938) (by decide +kernel), List.mem_of_getElem? (i := 939) (by decide +kernel)⟩
theorem lw_p36 : lw_okq (⟨"DeltaRoadModel", "readDigit", "(I)I"⟩, 30) := ⟨⟨by decide +kernel, by decide +kernel⟩, List.mem_of_getElem? (i := 750) (by decide +kernel), List.mem_of_getElem? (i := 943) (by decide +kernel), List.mem_of_getElem? (i := 944) (by decide +kernel)⟩
theorem lw_p37 : lw_okq (⟨"DeltaRoadModel", "takes", "(I)Z"⟩, 30) := ⟨⟨by decide +kernel, by decide +kernel⟩, List.mem_of_getElem? (i := 750) (by decide +kernel), List.mem_of_getElem? (i := 947) (by decide +kernel), List.mem_of_getElem? (i := 948) (by decide +kernel)⟩
theorem lw_p38 : lw_okq (⟨"DeltaRoadModel", "readVillages", "()Z"⟩, 30) := ⟨⟨by decide +kernel, by decide +kernel⟩, List.mem_of_getElem? (i := 750) (by decide +kernel), List.mem_of_getElem? (i := 955) (by decide +kernel), List.mem_of_getElem? (i := 956) (by decide +kernel)⟩
theorem lw_p39 : lw_okq (⟨"DeltaRoadModel", "readVillage", "(I)Z"⟩, 30) := ⟨⟨by decide +kernel, by decide +kernel⟩, List.mem_of_getElem? (i := 750) (by decide +kernel), List.mem_of_getElem? (i := 959) (by decide +kernel), List.mem_of_getElem? (i := 960) (by decide +kernel)⟩
theorem lw_p40 : lw_okq (⟨"DeltaRoadModel", "readNumber", "(II)I"⟩, 30) := ⟨⟨by decide +kernel, by decide +kernel⟩, List.mem_of_getElem? (i := 750) (by decide +kernel), List.mem_of_getElem? (i := 963) (by decide +kernel), List.mem_of_getElem? (i := 964) (by decide +kernel)⟩
theorem lw_p41 : lw_okq (⟨"DeltaRoadModel", "isSet", "(I)Z"⟩, 30) := ⟨⟨by decide +kernel, by decide +kernel⟩, List.mem_of_getElem? (i := 750) (by decide +kernel), List.mem_of_getElem? (i := 984) (by decide +kernel), List.mem_of_getElem? (i := 985) (by decide +kernel)⟩
theorem lw_p42 : lw_okq (⟨"DeltaRoadModel", "findAll", "()V"⟩, 30) := ⟨⟨by decide +kernel, by decide +kernel⟩, List.mem_of_getElem? (i := 750) (by decide +kernel), List.mem_of_getElem? (i := 988) (by decide +kernel), List.mem_of_getElem? (i := 989) (by decide +kernel)⟩
theorem lw_p43 : lw_okq (⟨"DeltaRoadModel", "findCosts", "()V"⟩, 30) := ⟨⟨by decide +kernel, by decide +kernel⟩, List.mem_of_getElem? (i := 750) (by decide +kernel), List.mem_of_getElem? (i := 992) (by decide +kernel), List.mem_of_getElem? (i := 993) (by decide +kernel)⟩
theorem lw_p44 : lw_okq (⟨"DeltaRoadModel", "serves", "(I)I"⟩, 30) := ⟨⟨by decide +kernel, by decide +kernel⟩, List.mem_of_getElem? (i := 750) (by decide +kernel), List.mem_of_getElem? (i := 996) (by decide +kernel), List.mem_of_getElem? (i := 997) (by decide +kernel)⟩
theorem lw_p45 : lw_okq (⟨"DeltaRoadModel", "findCome", "()V"⟩, 30) := ⟨⟨by decide +kernel, by decide +kernel⟩, List.mem_of_getElem? (i := 750) (by decide +kernel), List.mem_of_getElem? (i := 1003) (by decide +kernel), List.mem_of_getElem? (i := 1004) (by decide +kernel)⟩
theorem lw_p46 : lw_okq (⟨"DeltaRoadModel", "loadsOf", "(I)I"⟩, 30) := ⟨⟨by decide +kernel, by decide +kernel⟩, List.mem_of_getElem? (i := 750) (by decide +kernel), List.mem_of_getElem? (i := 1013) (by decide +kernel), List.mem_of_getElem? (i := 1014) (by decide +kernel)⟩
theorem lw_p47 : lw_okq (⟨"DeltaRoadModel", "findLeft", "(I)V"⟩, 30) := ⟨⟨by decide +kernel, by decide +kernel⟩, List.mem_of_getElem? (i := 750) (by decide +kernel), List.mem_of_getElem? (i := 1041) (by decide +kernel), List.mem_of_getElem? (i := 1042) (by decide +kernel)⟩
def lw_privs_3 : List (MethodName × Nat) := [(⟨"DeltaRoadModel", "allWeights", "()I"⟩, 30), (⟨"DeltaRoadModel", "readDelta", "()Z"⟩, 30), (⟨"DeltaRoadModel", "readRow", "(I)I"⟩, 30), (⟨"DeltaRoadModel", "nextByte", "()I"⟩, 30), (⟨"DeltaRoadModel", "readDigit", "(I)I"⟩, 30), (⟨"DeltaRoadModel", "takes", "(I)Z"⟩, 30), (⟨"DeltaRoadModel", "readVillages", "()Z"⟩, 30), (⟨"DeltaRoadModel", "readVillage", "(I)Z"⟩, 30), (⟨"DeltaRoadModel", "readNumber", "(II)I"⟩, 30), (⟨"DeltaRoadModel", "isSet", "(I)Z"⟩, 30), (⟨"DeltaRoadModel", "findAll", "()V"⟩, 30), (⟨"DeltaRoadModel", "findCosts", "()V"⟩, 30), (⟨"DeltaRoadModel", "serves", "(I)I"⟩, 30), (⟨"DeltaRoadModel", "findCome", "()V"⟩, 30), (⟨"DeltaRoadModel", "loadsOf", "(I)I"⟩, 30), (⟨"DeltaRoadModel", "findLeft", "(I)V"⟩, 30)]
theorem lw_r3 : ∀ q ∈ lw_privs_3, lw_okq q := List.forall_mem_cons.mpr ⟨lw_p32, List.forall_mem_cons.mpr ⟨lw_p33, List.forall_mem_cons.mpr ⟨lw_p34, List.forall_mem_cons.mpr ⟨lw_p35, List.forall_mem_cons.mpr ⟨lw_p36, List.forall_mem_cons.mpr ⟨lw_p37, List.forall_mem_cons.mpr ⟨lw_p38, List.forall_mem_cons.mpr ⟨lw_p39, List.forall_mem_cons.mpr ⟨lw_p40, List.forall_mem_cons.mpr ⟨lw_p41, List.forall_mem_cons.mpr ⟨lw_p42, List.forall_mem_cons.mpr ⟨lw_p43, List.forall_mem_cons.mpr ⟨lw_p44, List.forall_mem_cons.mpr ⟨lw_p45, List.forall_mem_cons.mpr ⟨lw_p46, List.forall_mem_cons.mpr ⟨lw_p47, fun _ h => absurd h List.not_mem_nil⟩⟩⟩⟩⟩⟩⟩⟩⟩⟩⟩⟩⟩⟩⟩⟩
theorem lw_p48 : lw_okq (⟨"DeltaRoadModel", "goesAt", "(I)Z"⟩, 30) := ⟨⟨by decide +kernel, by decide +kernel⟩, List.mem_of_getElem? (i := 750) (by decide +kernel), List.mem_of_getElem? (i := 1080) (by decide +kernel), List.mem_of_getElem? (i := 1081) (by decide +kernel)⟩
theorem lw_p49 : lw_okq (⟨"DeltaRoadModel", "carried", "(IIZ)I"⟩, 30) := ⟨⟨by decide +kernel, by decide +kernel⟩, List.mem_of_getElem? (i := 750) (by decide +kernel), List.mem_of_getElem? (i := 1115) (by decide +kernel), List.mem_of_getElem? (i := 1116) (by decide +kernel)⟩
theorem lw_p50 : lw_okq (⟨"DeltaRoadModel", "lacksRow", "(IIII)I"⟩, 30) := ⟨⟨by decide +kernel, by decide +kernel⟩, List.mem_of_getElem? (i := 750) (by decide +kernel), List.mem_of_getElem? (i := 1139) (by decide +kernel), List.mem_of_getElem? (i := 1140) (by decide +kernel)⟩
def lw_privs_4 : List (MethodName × Nat) := [(⟨"DeltaRoadModel", "goesAt", "(I)Z"⟩, 30), (⟨"DeltaRoadModel", "carried", "(IIZ)I"⟩, 30), (⟨"DeltaRoadModel", "lacksRow", "(IIII)I"⟩, 30)]
theorem lw_r4 : ∀ q ∈ lw_privs_4, lw_okq q := List.forall_mem_cons.mpr ⟨lw_p48, List.forall_mem_cons.mpr ⟨lw_p49, List.forall_mem_cons.mpr ⟨lw_p50, fun _ h => absurd h List.not_mem_nil⟩⟩⟩
def lw_privs : List (MethodName × Nat) := lw_privs_1 ++ (lw_privs_2 ++ (lw_privs_3 ++ (lw_privs_4)))
def lw_tbl : List Cond := k2_sels lw_privs ++ tables_1
theorem lw_privs_ok : ∀ q ∈ lw_privs, lw_okq q := by
  show ∀ q ∈ lw_privs_1 ++ (lw_privs_2 ++ (lw_privs_3 ++ (lw_privs_4))), lw_okq q
  exact List.forall_mem_append.mpr ⟨lw_r1, List.forall_mem_append.mpr ⟨lw_r2, List.forall_mem_append.mpr ⟨lw_r3, lw_r4⟩⟩⟩

def RX0 : String := "DeltaRoad$Ground"
def TX0 : u_T := fun k => match k with
  | 0 => ("DeltaRoad$Ground", "traits", "[[I", true)
  | _ => ("DeltaRoad$Ground", "level", "I", false)
def tyX0 : Nat → FieldType := fun k => match k with
  | 0 => .array (.array .int)
  | _ => .int
theorem nmX0 : ∀ a, a < 2 → ∀ b, b < 2 → a ≠ b → (TX0 a).2.1 ≠ (TX0 b).2.1 := by decide +kernel
theorem tyX0_ok : ∀ k, k < 2 → parseFieldDescriptor (TX0 k).2.2.1 = some (tyX0 k) := by decide +kernel
def RX1 : String := "DeltaRoad$Laid"
def TX1 : u_T := fun k => match k with
  | 0 => ("DeltaRoad$Laid", "cells", "[I", true)
  | _ => ("DeltaRoad$Laid", "length", "I", false)
def tyX1 : Nat → FieldType := fun k => match k with
  | 0 => .array .int
  | _ => .int
theorem nmX1 : ∀ a, a < 2 → ∀ b, b < 2 → a ≠ b → (TX1 a).2.1 ≠ (TX1 b).2.1 := by decide +kernel
theorem tyX1_ok : ∀ k, k < 2 → parseFieldDescriptor (TX1 k).2.2.1 = some (tyX1 k) := by decide +kernel
def RX2 : String := "DeltaRoad$Plan"
def TX2 : u_T := fun k => match k with
  | 0 => ("DeltaRoad$Plan", "stepWeights", "[I", true)
  | 1 => ("DeltaRoad$Plan", "served", "[I", true)
  | 2 => ("DeltaRoad$Plan", "best", "[[I", true)
  | 3 => ("DeltaRoad$Plan", "settled", "[Z", true)
  | 4 => ("DeltaRoad$Plan", "queue", "[I", true)
  | 5 => ("DeltaRoad$Plan", "queued", "[Z", true)
  | 6 => ("DeltaRoad$Plan", "head", "I", false)
  | 7 => ("DeltaRoad$Plan", "waiting", "I", false)
  | 8 => ("DeltaRoad$Plan", "start", "I", false)
  | _ => ("DeltaRoad$Plan", "goal", "I", false)
def tyX2 : Nat → FieldType := fun k => match k with
  | 0 => .array .int
  | 1 => .array .int
  | 2 => .array (.array .int)
  | 3 => .array .boolean
  | 4 => .array .int
  | 5 => .array .boolean
  | 6 => .int
  | 7 => .int
  | 8 => .int
  | _ => .int
theorem nmX2 : ∀ a, a < 10 → ∀ b, b < 10 → a ≠ b → (TX2 a).2.1 ≠ (TX2 b).2.1 := by decide +kernel
theorem tyX2_ok : ∀ k, k < 10 → parseFieldDescriptor (TX2 k).2.2.1 = some (tyX2 k) := by decide +kernel
def RX3 : String := "DeltaRoad$Sheets"
def TX3 : u_T := fun k => match k with
  | 0 => ("DeltaRoad$Sheets", "held", "[Z", true)
  | 1 => ("DeltaRoad$Sheets", "lanes", "[I", true)
  | 2 => ("DeltaRoad$Sheets", "sizes", "[I", true)
  | _ => ("DeltaRoad$Sheets", "items", "[[I", true)
def tyX3 : Nat → FieldType := fun k => match k with
  | 0 => .array .boolean
  | 1 => .array .int
  | 2 => .array .int
  | _ => .array (.array .int)
theorem nmX3 : ∀ a, a < 4 → ∀ b, b < 4 → a ≠ b → (TX3 a).2.1 ≠ (TX3 b).2.1 := by decide +kernel
theorem tyX3_ok : ∀ k, k < 4 → parseFieldDescriptor (TX3 k).2.2.1 = some (tyX3 k) := by decide +kernel
def RX4 : String := "DeltaRoad$Tape"
def TX4 : u_T := fun k => match k with
  | 0 => ("DeltaRoad$Tape", "bytes", "[B", true)
  | 1 => ("DeltaRoad$Tape", "length", "I", false)
  | _ => ("DeltaRoad$Tape", "place", "I", false)
def tyX4 : Nat → FieldType := fun k => match k with
  | 0 => .array .byte
  | 1 => .int
  | _ => .int
theorem nmX4 : ∀ a, a < 3 → ∀ b, b < 3 → a ≠ b → (TX4 a).2.1 ≠ (TX4 b).2.1 := by decide +kernel
theorem tyX4_ok : ∀ k, k < 3 → parseFieldDescriptor (TX4 k).2.2.1 = some (tyX4 k) := by decide +kernel
def RX5 : String := "DeltaRoad$Villages"
def TX5 : u_T := fun k => match k with
  | 0 => ("DeltaRoad$Villages", "cells", "[I", true)
  | 1 => ("DeltaRoad$Villages", "loads", "[I", true)
  | _ => ("DeltaRoad$Villages", "number", "I", false)
def tyX5 : Nat → FieldType := fun k => match k with
  | 0 => .array .int
  | 1 => .array .int
  | _ => .int
theorem nmX5 : ∀ a, a < 3 → ∀ b, b < 3 → a ≠ b → (TX5 a).2.1 ≠ (TX5 b).2.1 := by decide +kernel
theorem tyX5_ok : ∀ k, k < 3 → parseFieldDescriptor (TX5 k).2.2.1 = some (tyX5 k) := by decide +kernel
def RX6 : String := "DeltaRoad$Water"
def TX6 : u_T := fun k => match k with
  | 0 => ("DeltaRoad$Water", "depth", "[I", true)
  | 1 => ("DeltaRoad$Water", "reached", "[I", true)
  | 2 => ("DeltaRoad$Water", "muddied", "[I", true)
  | _ => ("DeltaRoad$Water", "wet", "I", false)
def tyX6 : Nat → FieldType := fun k => match k with
  | 0 => .array .int
  | 1 => .array .int
  | 2 => .array .int
  | _ => .int
theorem nmX6 : ∀ a, a < 4 → ∀ b, b < 4 → a ≠ b → (TX6 a).2.1 ≠ (TX6 b).2.1 := by decide +kernel
theorem tyX6_ok : ∀ k, k < 4 → parseFieldDescriptor (TX6 k).2.2.1 = some (tyX6 k) := by decide +kernel
def RX7 : String := "DeltaRoad$Weather"
def TX7 : u_T := fun k => match k with
  | 0 => ("DeltaRoad$Weather", "weights", "[I", true)
  | _ => ("DeltaRoad$Weather", "drawn", "I", false)
def tyX7 : Nat → FieldType := fun k => match k with
  | 0 => .array .int
  | _ => .int
theorem nmX7 : ∀ a, a < 2 → ∀ b, b < 2 → a ≠ b → (TX7 a).2.1 ≠ (TX7 b).2.1 := by decide +kernel
theorem tyX7_ok : ∀ k, k < 2 → parseFieldDescriptor (TX7 k).2.2.1 = some (tyX7 k) := by decide +kernel
def RX8 : String := "DeltaRoad$World"
def TX8 : u_T := fun k => match k with
  | 0 => ("DeltaRoad$World", "ground", "LDeltaRoad$Ground;", true)
  | 1 => ("DeltaRoad$World", "villages", "LDeltaRoad$Villages;", true)
  | 2 => ("DeltaRoad$World", "laid", "LDeltaRoad$Laid;", true)
  | 3 => ("DeltaRoad$World", "weather", "LDeltaRoad$Weather;", true)
  | 4 => ("DeltaRoad$World", "firstEnd", "I", false)
  | _ => ("DeltaRoad$World", "secondEnd", "I", false)
def tyX8 : Nat → FieldType := fun k => match k with
  | 0 => .object "DeltaRoad$Ground"
  | 1 => .object "DeltaRoad$Villages"
  | 2 => .object "DeltaRoad$Laid"
  | 3 => .object "DeltaRoad$Weather"
  | 4 => .int
  | _ => .int
theorem nmX8 : ∀ a, a < 6 → ∀ b, b < 6 → a ≠ b → (TX8 a).2.1 ≠ (TX8 b).2.1 := by decide +kernel
theorem tyX8_ok : ∀ k, k < 6 → parseFieldDescriptor (TX8 k).2.2.1 = some (tyX8 k) := by decide +kernel
def RX9 : String := "DeltaRoad"
def TX9 : u_T := fun k => match k with
  | 0 => ("DeltaRoad", "world", "LDeltaRoad$World;", true)
  | 1 => ("DeltaRoad", "water", "LDeltaRoad$Water;", true)
  | 2 => ("DeltaRoad", "trial", "LDeltaRoad$Water;", true)
  | 3 => ("DeltaRoad", "tape", "LDeltaRoad$Tape;", true)
  | 4 => ("DeltaRoad", "sheets", "LDeltaRoad$Sheets;", true)
  | 5 => ("DeltaRoad", "groundDraft", "LDeltaRoad$Ground;", true)
  | 6 => ("DeltaRoad", "villagesDraft", "LDeltaRoad$Villages;", true)
  | 7 => ("DeltaRoad", "kept", "LDeltaRoad$World;", false)
  | 8 => ("DeltaRoad", "plan", "LDeltaRoad$Plan;", false)
  | 9 => ("DeltaRoad", "waterKnown", "Z", false)
  | _ => ("DeltaRoad", "planKnown", "Z", false)
def tyX9 : Nat → FieldType := fun k => match k with
  | 0 => .object "DeltaRoad$World"
  | 1 => .object "DeltaRoad$Water"
  | 2 => .object "DeltaRoad$Water"
  | 3 => .object "DeltaRoad$Tape"
  | 4 => .object "DeltaRoad$Sheets"
  | 5 => .object "DeltaRoad$Ground"
  | 6 => .object "DeltaRoad$Villages"
  | 7 => .object "DeltaRoad$World"
  | 8 => .object "DeltaRoad$Plan"
  | 9 => .boolean
  | _ => .boolean
theorem nmX9 : ∀ a, a < 11 → ∀ b, b < 11 → a ≠ b → (TX9 a).2.1 ≠ (TX9 b).2.1 := by decide +kernel
theorem tyX9_ok : ∀ k, k < 11 → parseFieldDescriptor (TX9 k).2.2.1 = some (tyX9 k) := by decide +kernel
def RX10 : String := "DeltaRoadModel"
def TX10 : u_T := fun k => match k with
  | 0 => ("DeltaRoadModel", "z", "[I", true)
  | 1 => ("DeltaRoadModel", "level", "I", false)
  | 2 => ("DeltaRoadModel", "cells", "[I", true)
  | 3 => ("DeltaRoadModel", "loads", "[I", true)
  | 4 => ("DeltaRoadModel", "many", "I", false)
  | 5 => ("DeltaRoadModel", "first", "I", false)
  | 6 => ("DeltaRoadModel", "second", "I", false)
  | 7 => ("DeltaRoadModel", "road", "[I", true)
  | 8 => ("DeltaRoadModel", "size", "I", false)
  | 9 => ("DeltaRoadModel", "weights", "[I", true)
  | 10 => ("DeltaRoadModel", "drawn", "I", false)
  | 11 => ("DeltaRoadModel", "wet", "[I", true)
  | 12 => ("DeltaRoadModel", "queue", "[I", true)
  | 13 => ("DeltaRoadModel", "queued", "I", false)
  | 14 => ("DeltaRoadModel", "goesTo", "[I", true)
  | 15 => ("DeltaRoadModel", "tape", "[I", true)
  | 16 => ("DeltaRoadModel", "taped", "I", false)
  | 17 => ("DeltaRoadModel", "place", "I", false)
  | 18 => ("DeltaRoadModel", "reads", "I", false)
  | 19 => ("DeltaRoadModel", "read", "[I", true)
  | 20 => ("DeltaRoadModel", "costs", "[I", true)
  | 21 => ("DeltaRoadModel", "served", "[I", true)
  | 22 => ("DeltaRoadModel", "left", "[I", true)
  | 23 => ("DeltaRoadModel", "cheap", "[I", true)
  | 24 => ("DeltaRoadModel", "isKept", "Z", false)
  | 25 => ("DeltaRoadModel", "kept", "[I", true)
  | 26 => ("DeltaRoadModel", "keptCounts", "[I", true)
  | 27 => ("DeltaRoadModel", "lanes", "[I", true)
  | 28 => ("DeltaRoadModel", "rowSizes", "[I", true)
  | _ => ("DeltaRoadModel", "items", "[I", true)
def tyX10 : Nat → FieldType := fun k => match k with
  | 0 => .array .int
  | 1 => .int
  | 2 => .array .int
  | 3 => .array .int
  | 4 => .int
  | 5 => .int
  | 6 => .int
  | 7 => .array .int
  | 8 => .int
  | 9 => .array .int
  | 10 => .int
  | 11 => .array .int
  | 12 => .array .int
  | 13 => .int
  | 14 => .array .int
  | 15 => .array .int
  | 16 => .int
  | 17 => .int
  | 18 => .int
  | 19 => .array .int
  | 20 => .array .int
  | 21 => .array .int
  | 22 => .array .int
  | 23 => .array .int
  | 24 => .boolean
  | 25 => .array .int
  | 26 => .array .int
  | 27 => .array .int
  | 28 => .array .int
  | _ => .array .int
theorem nmX10 : ∀ a, a < 30 → ∀ b, b < 30 → a ≠ b → (TX10 a).2.1 ≠ (TX10 b).2.1 := by decide +kernel
theorem tyX10_ok : ∀ k, k < 30 → parseFieldDescriptor (TX10 k).2.2.1 = some (tyX10 k) := by decide +kernel
abbrev vwCl : List vw_C := [(RX0, TX0, 2), (RX1, TX1, 2), (RX2, TX2, 10), (RX3, TX3, 4), (RX4, TX4, 3), (RX5, TX5, 3), (RX6, TX6, 4), (RX7, TX7, 2), (RX8, TX8, 6), (RX9, TX9, 11), (RX10, TX10, 30)]
