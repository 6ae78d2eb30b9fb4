-- ===== PART A: goes FIRST, ahead of the names: the tables' words, and 'selects' of the private methods out of them =====
/-- a private method of a class that the tables say can be made, by its rows of tables_1 -/
def lw_okq (q : MethodName × Nat) : Prop := (q.1.cls ≠ "java/lang/invoke/MethodHandle" ∧ q.1.cls ≠ "java/lang/invoke/VarHandle") ∧ Cond.instantiable q.1.cls q.2 ∈ tables_1 ∧ Cond.privateMethod q.1 ∈ tables_1 ∧ Cond.instanceMethod q.1 ∈ tables_1
theorem lw_p0 : lw_okq (⟨"RecastStage$Reader", "readRun", "()V"⟩, 11) := ⟨⟨by decide +kernel, by decide +kernel⟩, List.mem_of_getElem? (i := 35) (by decide +kernel), List.mem_of_getElem? (i := 641) (by decide +kernel), List.mem_of_getElem? (i := 642) (by decide +kernel)⟩
theorem lw_p1 : lw_okq (⟨"RecastStage$PlayReader", "readLine", "(LRecastStage$Reader;)V"⟩, 1) := ⟨⟨by decide +kernel, by decide +kernel⟩, List.mem_of_getElem? (i := 156) (by decide +kernel), List.mem_of_getElem? (i := 660) (by decide +kernel), List.mem_of_getElem? (i := 661) (by decide +kernel)⟩
theorem lw_p2 : lw_okq (⟨"RecastStage$PlayReader", "readPart", "(LRecastStage$Reader;)V"⟩, 1) := ⟨⟨by decide +kernel, by decide +kernel⟩, List.mem_of_getElem? (i := 156) (by decide +kernel), List.mem_of_getElem? (i := 668) (by decide +kernel), List.mem_of_getElem? (i := 669) (by decide +kernel)⟩
theorem lw_p3 : lw_okq (⟨"RecastStage$PlayReader", "takeNewName", "(LRecastStage$Reader;[JI)Z"⟩, 1) := ⟨⟨by decide +kernel, by decide +kernel⟩, List.mem_of_getElem? (i := 156) (by decide +kernel), List.mem_of_getElem? (i := 680) (by decide +kernel), List.mem_of_getElem? (i := 681) (by decide +kernel)⟩
theorem lw_p4 : lw_okq (⟨"RecastStage$PlayReader", "readFact", "(LRecastStage$Reader;)V"⟩, 1) := ⟨⟨by decide +kernel, by decide +kernel⟩, List.mem_of_getElem? (i := 156) (by decide +kernel), List.mem_of_getElem? (i := 698) (by decide +kernel), List.mem_of_getElem? (i := 699) (by decide +kernel)⟩
theorem lw_p5 : lw_okq (⟨"RecastStage$PlayReader", "readClears", "(LRecastStage$Reader;)V"⟩, 1) := ⟨⟨by decide +kernel, by decide +kernel⟩, List.mem_of_getElem? (i := 156) (by decide +kernel), List.mem_of_getElem? (i := 702) (by decide +kernel), List.mem_of_getElem? (i := 703) (by decide +kernel)⟩
theorem lw_p6 : lw_okq (⟨"RecastStage$PlayReader", "readMan", "(LRecastStage$Reader;)V"⟩, 1) := ⟨⟨by decide +kernel, by decide +kernel⟩, List.mem_of_getElem? (i := 156) (by decide +kernel), List.mem_of_getElem? (i := 722) (by decide +kernel), List.mem_of_getElem? (i := 723) (by decide +kernel)⟩
theorem lw_p7 : lw_okq (⟨"RecastStage$PlayReader", "readAct", "(LRecastStage$Reader;)V"⟩, 1) := ⟨⟨by decide +kernel, by decide +kernel⟩, List.mem_of_getElem? (i := 156) (by decide +kernel), List.mem_of_getElem? (i := 730) (by decide +kernel), List.mem_of_getElem? (i := 731) (by decide +kernel)⟩
theorem lw_p8 : lw_okq (⟨"RecastStage$PlayReader", "readScene", "(LRecastStage$Reader;)V"⟩, 1) := ⟨⟨by decide +kernel, by decide +kernel⟩, List.mem_of_getElem? (i := 156) (by decide +kernel), List.mem_of_getElem? (i := 734) (by decide +kernel), List.mem_of_getElem? (i := 735) (by decide +kernel)⟩
theorem lw_p9 : lw_okq (⟨"RecastStage$PlayReader", "readShows", "(LRecastStage$Reader;)V"⟩, 1) := ⟨⟨by decide +kernel, by decide +kernel⟩, List.mem_of_getElem? (i := 156) (by decide +kernel), List.mem_of_getElem? (i := 742) (by decide +kernel), List.mem_of_getElem? (i := 743) (by decide +kernel)⟩
theorem lw_p10 : lw_okq (⟨"RecastStage$PlayReader", "readNeeds", "(LRecastStage$Reader;)V"⟩, 1) := ⟨⟨by decide +kernel, by decide +kernel⟩, List.mem_of_getElem? (i := 156) (by decide +kernel), List.mem_of_getElem? (i := 746) (by decide +kernel), List.mem_of_getElem? (i := 747) (by decide +kernel)⟩
theorem lw_p11 : lw_okq (⟨"RecastStage$PlayReader", "readLikes", "(LRecastStage$Reader;)V"⟩, 1) := ⟨⟨by decide +kernel, by decide +kernel⟩, List.mem_of_getElem? (i := 156) (by decide +kernel), List.mem_of_getElem? (i := 750) (by decide +kernel), List.mem_of_getElem? (i := 751) (by decide +kernel)⟩
theorem lw_p12 : lw_okq (⟨"RecastStage$PlayReader", "readNever", "(LRecastStage$Reader;)V"⟩, 1) := ⟨⟨by decide +kernel, by decide +kernel⟩, List.mem_of_getElem? (i := 156) (by decide +kernel), List.mem_of_getElem? (i := 758) (by decide +kernel), List.mem_of_getElem? (i := 759) (by decide +kernel)⟩
theorem lw_p13 : lw_okq (⟨"RecastStage$PlayReader", "readFoes", "(LRecastStage$Reader;)V"⟩, 1) := ⟨⟨by decide +kernel, by decide +kernel⟩, List.mem_of_getElem? (i := 156) (by decide +kernel), List.mem_of_getElem? (i := 762) (by decide +kernel), List.mem_of_getElem? (i := 763) (by decide +kernel)⟩
theorem lw_p14 : lw_okq (⟨"RecastStage$PlayReader", "readRest", "(LRecastStage$Reader;)V"⟩, 1) := ⟨⟨by decide +kernel, by decide +kernel⟩, List.mem_of_getElem? (i := 156) (by decide +kernel), List.mem_of_getElem? (i := 766) (by decide +kernel), List.mem_of_getElem? (i := 767) (by decide +kernel)⟩
theorem lw_p15 : lw_okq (⟨"RecastStage$Evening", "meetsFoe", "(LRecastStage$Play;II)Z"⟩, 13) := ⟨⟨by decide +kernel, by decide +kernel⟩, List.mem_of_getElem? (i := 299) (by decide +kernel), List.mem_of_getElem? (i := 869) (by decide +kernel), List.mem_of_getElem? (i := 870) (by decide +kernel)⟩
def lw_privs_1 : List (MethodName × Nat) := [(⟨"RecastStage$Reader", "readRun", "()V"⟩, 11), (⟨"RecastStage$PlayReader", "readLine", "(LRecastStage$Reader;)V"⟩, 1), (⟨"RecastStage$PlayReader", "readPart", "(LRecastStage$Reader;)V"⟩, 1), (⟨"RecastStage$PlayReader", "takeNewName", "(LRecastStage$Reader;[JI)Z"⟩, 1), (⟨"RecastStage$PlayReader", "readFact", "(LRecastStage$Reader;)V"⟩, 1), (⟨"RecastStage$PlayReader", "readClears", "(LRecastStage$Reader;)V"⟩, 1), (⟨"RecastStage$PlayReader", "readMan", "(LRecastStage$Reader;)V"⟩, 1), (⟨"RecastStage$PlayReader", "readAct", "(LRecastStage$Reader;)V"⟩, 1), (⟨"RecastStage$PlayReader", "readScene", "(LRecastStage$Reader;)V"⟩, 1), (⟨"RecastStage$PlayReader", "readShows", "(LRecastStage$Reader;)V"⟩, 1), (⟨"RecastStage$PlayReader", "readNeeds", "(LRecastStage$Reader;)V"⟩, 1), (⟨"RecastStage$PlayReader", "readLikes", "(LRecastStage$Reader;)V"⟩, 1), (⟨"RecastStage$PlayReader", "readNever", "(LRecastStage$Reader;)V"⟩, 1), (⟨"RecastStage$PlayReader", "readFoes", "(LRecastStage$Reader;)V"⟩, 1), (⟨"RecastStage$PlayReader", "readRest", "(LRecastStage$Reader;)V"⟩, 1), (⟨"RecastStage$Evening", "meetsFoe", "(LRecastStage$Play;II)Z"⟩, 13)]
theorem lw_r1 : ∀ q ∈ lw_privs_1, lw_okq q := List.forall_mem_cons.mpr ⟨lw_p0, List.forall_mem_cons.mpr ⟨lw_p1, List.forall_mem_cons.mpr ⟨lw_p2, List.forall_mem_cons.mpr ⟨lw_p3, List.forall_mem_cons.mpr ⟨lw_p4, List.forall_mem_cons.mpr ⟨lw_p5, List.forall_mem_cons.mpr ⟨lw_p6, List.forall_mem_cons.mpr ⟨lw_p7, List.forall_mem_cons.mpr ⟨lw_p8, List.forall_mem_cons.mpr ⟨lw_p9, List.forall_mem_cons.mpr ⟨lw_p10, List.forall_mem_cons.mpr ⟨lw_p11, List.forall_mem_cons.mpr ⟨lw_p12, List.forall_mem_cons.mpr ⟨lw_p13, List.forall_mem_cons.mpr ⟨lw_p14, List.forall_mem_cons.mpr ⟨lw_p15, fun _ h => absurd h List.not_mem_nil⟩⟩⟩⟩⟩⟩⟩⟩⟩⟩⟩⟩⟩⟩⟩⟩
theorem lw_p16 : lw_okq (⟨"RecastStage$Evening", "clap", "(LRecastStage$Play;I)V"⟩, 13) := ⟨⟨by decide +kernel, by decide +kernel⟩, List.mem_of_getElem? (i := 299) (by decide +kernel), List.mem_of_getElem? (i := 907) (by decide +kernel), List.mem_of_getElem? (i := 908) (by decide +kernel)⟩
theorem lw_p17 : lw_okq (⟨"RecastStage$Evening", "learn", "(LRecastStage$Play;I)V"⟩, 13) := ⟨⟨by decide +kernel, by decide +kernel⟩, List.mem_of_getElem? (i := 299) (by decide +kernel), List.mem_of_getElem? (i := 912) (by decide +kernel), List.mem_of_getElem? (i := 913) (by decide +kernel)⟩
theorem lw_p18 : lw_okq (⟨"RecastStage$Casting", "findCheapest", "()Z"⟩, 13) := ⟨⟨by decide +kernel, by decide +kernel⟩, List.mem_of_getElem? (i := 416) (by decide +kernel), List.mem_of_getElem? (i := 973) (by decide +kernel), List.mem_of_getElem? (i := 974) (by decide +kernel)⟩
theorem lw_p19 : lw_okq (⟨"RecastStage$Casting", "cheapestAt", "(I)I"⟩, 13) := ⟨⟨by decide +kernel, by decide +kernel⟩, List.mem_of_getElem? (i := 416) (by decide +kernel), List.mem_of_getElem? (i := 977) (by decide +kernel), List.mem_of_getElem? (i := 978) (by decide +kernel)⟩
theorem lw_p20 : lw_okq (⟨"RecastStage$Casting", "seekCheapest", "(III)V"⟩, 13) := ⟨⟨by decide +kernel, by decide +kernel⟩, List.mem_of_getElem? (i := 416) (by decide +kernel), List.mem_of_getElem? (i := 985) (by decide +kernel), List.mem_of_getElem? (i := 986) (by decide +kernel)⟩
theorem lw_p21 : lw_okq (⟨"RecastStage$Casting", "freeMen", "(II)I"⟩, 13) := ⟨⟨by decide +kernel, by decide +kernel⟩, List.mem_of_getElem? (i := 416) (by decide +kernel), List.mem_of_getElem? (i := 989) (by decide +kernel), List.mem_of_getElem? (i := 990) (by decide +kernel)⟩
theorem lw_p22 : lw_okq (⟨"RecastStage$Casting", "seekAll", "(II)V"⟩, 13) := ⟨⟨by decide +kernel, by decide +kernel⟩, List.mem_of_getElem? (i := 416) (by decide +kernel), List.mem_of_getElem? (i := 1019) (by decide +kernel), List.mem_of_getElem? (i := 1020) (by decide +kernel)⟩
theorem lw_p23 : lw_okq (⟨"RecastStage$Casting", "addLast", "(II)V"⟩, 13) := ⟨⟨by decide +kernel, by decide +kernel⟩, List.mem_of_getElem? (i := 416) (by decide +kernel), List.mem_of_getElem? (i := 1023) (by decide +kernel), List.mem_of_getElem? (i := 1024) (by decide +kernel)⟩
theorem lw_p24 : lw_okq (⟨"RecastStage$Casting", "ableForAny", "(I)I"⟩, 13) := ⟨⟨by decide +kernel, by decide +kernel⟩, List.mem_of_getElem? (i := 416) (by decide +kernel), List.mem_of_getElem? (i := 1051) (by decide +kernel), List.mem_of_getElem? (i := 1052) (by decide +kernel)⟩
theorem lw_p25 : lw_okq (⟨"RecastStage$Casting", "partsAt", "(I)I"⟩, 13) := ⟨⟨by decide +kernel, by decide +kernel⟩, List.mem_of_getElem? (i := 416) (by decide +kernel), List.mem_of_getElem? (i := 1055) (by decide +kernel), List.mem_of_getElem? (i := 1056) (by decide +kernel)⟩
theorem lw_p26 : lw_okq (⟨"RecastStage$Market", "wishOf", "(ILRecastStage$Play;LRecastStage$Casting;)I"⟩, 3) := ⟨⟨by decide +kernel, by decide +kernel⟩, List.mem_of_getElem? (i := 467) (by decide +kernel), List.mem_of_getElem? (i := 1114) (by decide +kernel), List.mem_of_getElem? (i := 1115) (by decide +kernel)⟩
theorem lw_p27 : lw_okq (⟨"RecastStage$Market", "raise", "(LRecastStage$Play;)Z"⟩, 3) := ⟨⟨by decide +kernel, by decide +kernel⟩, List.mem_of_getElem? (i := 467) (by decide +kernel), List.mem_of_getElem? (i := 1120) (by decide +kernel), List.mem_of_getElem? (i := 1121) (by decide +kernel)⟩
theorem lw_p28 : lw_okq (⟨"RecastStage", "goOnByBest", "()V"⟩, 14) := ⟨⟨by decide +kernel, by decide +kernel⟩, List.mem_of_getElem? (i := 27) (by decide +kernel), List.mem_of_getElem? (i := 1136) (by decide +kernel), List.mem_of_getElem? (i := 1137) (by decide +kernel)⟩
theorem lw_p29 : lw_okq (⟨"RecastStage", "playBest", "(LRecastStage$Evening;)Z"⟩, 14) := ⟨⟨by decide +kernel, by decide +kernel⟩, List.mem_of_getElem? (i := 27) (by decide +kernel), List.mem_of_getElem? (i := 1141) (by decide +kernel), List.mem_of_getElem? (i := 1142) (by decide +kernel)⟩
theorem lw_p30 : lw_okq (⟨"RecastStage", "firstWithMost", "([II)I"⟩, 14) := ⟨⟨by decide +kernel, by decide +kernel⟩, List.mem_of_getElem? (i := 27) (by decide +kernel), List.mem_of_getElem? (i := 1153) (by decide +kernel), List.mem_of_getElem? (i := 1154) (by decide +kernel)⟩
theorem lw_p31 : lw_okq (⟨"RecastStage", "playDrawn", "(LRecastStage$Evening;I)V"⟩, 14) := ⟨⟨by decide +kernel, by decide +kernel⟩, List.mem_of_getElem? (i := 27) (by decide +kernel), List.mem_of_getElem? (i := 1161) (by decide +kernel), List.mem_of_getElem? (i := 1162) (by decide +kernel)⟩
def lw_privs_2 : List (MethodName × Nat) := [(⟨"RecastStage$Evening", "clap", "(LRecastStage$Play;I)V"⟩, 13), (⟨"RecastStage$Evening", "learn", "(LRecastStage$Play;I)V"⟩, 13), (⟨"RecastStage$Casting", "findCheapest", "()Z"⟩, 13), (⟨"RecastStage$Casting", "cheapestAt", "(I)I"⟩, 13), (⟨"RecastStage$Casting", "seekCheapest", "(III)V"⟩, 13), (⟨"RecastStage$Casting", "freeMen", "(II)I"⟩, 13), (⟨"RecastStage$Casting", "seekAll", "(II)V"⟩, 13), (⟨"RecastStage$Casting", "addLast", "(II)V"⟩, 13), (⟨"RecastStage$Casting", "ableForAny", "(I)I"⟩, 13), (⟨"RecastStage$Casting", "partsAt", "(I)I"⟩, 13), (⟨"RecastStage$Market", "wishOf", "(ILRecastStage$Play;LRecastStage$Casting;)I"⟩, 3), (⟨"RecastStage$Market", "raise", "(LRecastStage$Play;)Z"⟩, 3), (⟨"RecastStage", "goOnByBest", "()V"⟩, 14), (⟨"RecastStage", "playBest", "(LRecastStage$Evening;)Z"⟩, 14), (⟨"RecastStage", "firstWithMost", "([II)I"⟩, 14), (⟨"RecastStage", "playDrawn", "(LRecastStage$Evening;I)V"⟩, 14)]
theorem lw_r2 : ∀ q ∈ lw_privs_2, lw_okq q := List.forall_mem_cons.mpr ⟨lw_p16, List.forall_mem_cons.mpr ⟨lw_p17, List.forall_mem_cons.mpr ⟨lw_p18, List.forall_mem_cons.mpr ⟨lw_p19, List.forall_mem_cons.mpr ⟨lw_p20, List.forall_mem_cons.mpr ⟨lw_p21, List.forall_mem_cons.mpr ⟨lw_p22, List.forall_mem_cons.mpr ⟨lw_p23, List.forall_mem_cons.mpr ⟨lw_p24, List.forall_mem_cons.mpr ⟨lw_p25, List.forall_mem_cons.mpr ⟨lw_p26, List.forall_mem_cons.mpr ⟨lw_p27, List.forall_mem_cons.mpr ⟨lw_p28, List.forall_mem_cons.mpr ⟨lw_p29, List.forall_mem_cons.mpr ⟨lw_p30, List.forall_mem_cons.mpr ⟨lw_p31, fun _ h => absurd h List.not_mem_nil⟩⟩⟩⟩⟩⟩⟩⟩⟩⟩⟩⟩⟩⟩⟩⟩
theorem lw_p32 : lw_okq (⟨"RecastStage$Book", "readLine", "(LRecastStage$Reader;LRecastStage$Play;)V"⟩, 9) := ⟨⟨by decide +kernel, by decide +kernel⟩, List.mem_of_getElem? (i := 486) (by decide +kernel), List.mem_of_getElem? (i := 1179) (by decide +kernel), List.mem_of_getElem? (i := 1180) (by decide +kernel)⟩
theorem lw_p33 : lw_okq (⟨"RecastStage$Book", "whyWrong", "(ILRecastStage$Play;LRecastStage$Evening;LRecastStage$Casting;)I"⟩, 9) := ⟨⟨by decide +kernel, by decide +kernel⟩, List.mem_of_getElem? (i := 486) (by decide +kernel), List.mem_of_getElem? (i := 1206) (by decide +kernel), List.mem_of_getElem? (i := 1207) (by decide +kernel)⟩
theorem lw_p34 : lw_okq (⟨"RecastStage$Sentence", "readCond", "(LRecastStage$Reader;LRecastStage$Play;I)V"⟩, 6) := ⟨⟨by decide +kernel, by decide +kernel⟩, List.mem_of_getElem? (i := 390) (by decide +kernel), List.mem_of_getElem? (i := 1234) (by decide +kernel), List.mem_of_getElem? (i := 1235) (by decide +kernel)⟩
theorem lw_p35 : lw_okq (⟨"RecastStage$Sentence", "readAll", "(LRecastStage$Reader;LRecastStage$Play;I)V"⟩, 6) := ⟨⟨by decide +kernel, by decide +kernel⟩, List.mem_of_getElem? (i := 390) (by decide +kernel), List.mem_of_getElem? (i := 1238) (by decide +kernel), List.mem_of_getElem? (i := 1239) (by decide +kernel)⟩
theorem lw_p36 : lw_okq (⟨"RecastStage$Sentence", "readOne", "(LRecastStage$Reader;LRecastStage$Play;I)V"⟩, 6) := ⟨⟨by decide +kernel, by decide +kernel⟩, List.mem_of_getElem? (i := 390) (by decide +kernel), List.mem_of_getElem? (i := 1242) (by decide +kernel), List.mem_of_getElem? (i := 1243) (by decide +kernel)⟩
theorem lw_p37 : lw_okq (⟨"RecastStage$Sentence", "addStep", "(III)V"⟩, 6) := ⟨⟨by decide +kernel, by decide +kernel⟩, List.mem_of_getElem? (i := 390) (by decide +kernel), List.mem_of_getElem? (i := 1252) (by decide +kernel), List.mem_of_getElem? (i := 1253) (by decide +kernel)⟩
theorem lw_p38 : lw_okq (⟨"RecastStage$Sentence", "readPlainOne", "(LRecastStage$Reader;LRecastStage$Play;I)V"⟩, 6) := ⟨⟨by decide +kernel, by decide +kernel⟩, List.mem_of_getElem? (i := 390) (by decide +kernel), List.mem_of_getElem? (i := 1256) (by decide +kernel), List.mem_of_getElem? (i := 1257) (by decide +kernel)⟩
theorem lw_p39 : lw_okq (⟨"RecastStage$Sentence", "menOfOne", "(ILRecastStage$Play;LRecastStage$Evening;)I"⟩, 6) := ⟨⟨by decide +kernel, by decide +kernel⟩, List.mem_of_getElem? (i := 390) (by decide +kernel), List.mem_of_getElem? (i := 1277) (by decide +kernel), List.mem_of_getElem? (i := 1278) (by decide +kernel)⟩
theorem lw_p40 : lw_okq (⟨"RecastStage$Sentence", "holdsFor", "(IILRecastStage$Play;LRecastStage$Evening;)Z"⟩, 6) := ⟨⟨by decide +kernel, by decide +kernel⟩, List.mem_of_getElem? (i := 390) (by decide +kernel), List.mem_of_getElem? (i := 1283) (by decide +kernel), List.mem_of_getElem? (i := 1284) (by decide +kernel)⟩
theorem lw_p41 : lw_okq (⟨"RecastStage$Sentence", "compares", "(II)Z"⟩, 6) := ⟨⟨by decide +kernel, by decide +kernel⟩, List.mem_of_getElem? (i := 390) (by decide +kernel), List.mem_of_getElem? (i := 1288) (by decide +kernel), List.mem_of_getElem? (i := 1289) (by decide +kernel)⟩
theorem lw_p42 : lw_okq (⟨"java/lang/Throwable", "fillInStackTrace", "(I)Ljava/lang/Throwable;"⟩, 6) := ⟨⟨by decide +kernel, by decide +kernel⟩, List.mem_of_getElem? (i := 1349) (by decide +kernel), List.mem_of_getElem? (i := 1347) (by decide +kernel), List.mem_of_getElem? (i := 1348) (by decide +kernel)⟩
theorem lw_p43 : lw_okq (⟨"RecastStageModel", "four", "(I)V"⟩, 54) := ⟨⟨by decide +kernel, by decide +kernel⟩, List.mem_of_getElem? (i := 1381) (by decide +kernel), List.mem_of_getElem? (i := 1379) (by decide +kernel), List.mem_of_getElem? (i := 1380) (by decide +kernel)⟩
theorem lw_p44 : lw_okq (⟨"RecastStageModel", "taken", "(I)V"⟩, 54) := ⟨⟨by decide +kernel, by decide +kernel⟩, List.mem_of_getElem? (i := 1381) (by decide +kernel), List.mem_of_getElem? (i := 1588) (by decide +kernel), List.mem_of_getElem? (i := 1589) (by decide +kernel)⟩
theorem lw_p45 : lw_okq (⟨"RecastStageModel", "go", "()V"⟩, 54) := ⟨⟨by decide +kernel, by decide +kernel⟩, List.mem_of_getElem? (i := 1381) (by decide +kernel), List.mem_of_getElem? (i := 1592) (by decide +kernel), List.mem_of_getElem? (i := 1593) (by decide +kernel)⟩
theorem lw_p46 : lw_okq (⟨"RecastStageModel", "peek", "()I"⟩, 54) := ⟨⟨by decide +kernel, by decide +kernel⟩, List.mem_of_getElem? (i := 1381) (by decide +kernel), List.mem_of_getElem? (i := 1596) (by decide +kernel), List.mem_of_getElem? (i := 1597) (by decide +kernel)⟩
theorem lw_p47 : lw_okq (⟨"RecastStageModel", "line", "()Z"⟩, 54) := ⟨⟨by decide +kernel, by decide +kernel⟩, List.mem_of_getElem? (i := 1381) (by decide +kernel), List.mem_of_getElem? (i := 1606) (by decide +kernel), List.mem_of_getElem? (i := 1607) (by decide +kernel)⟩
def lw_privs_3 : List (MethodName × Nat) := [(⟨"RecastStage$Book", "readLine", "(LRecastStage$Reader;LRecastStage$Play;)V"⟩, 9), (⟨"RecastStage$Book", "whyWrong", "(ILRecastStage$Play;LRecastStage$Evening;LRecastStage$Casting;)I"⟩, 9), (⟨"RecastStage$Sentence", "readCond", "(LRecastStage$Reader;LRecastStage$Play;I)V"⟩, 6), (⟨"RecastStage$Sentence", "readAll", "(LRecastStage$Reader;LRecastStage$Play;I)V"⟩, 6), (⟨"RecastStage$Sentence", "readOne", "(LRecastStage$Reader;LRecastStage$Play;I)V"⟩, 6), (⟨"RecastStage$Sentence", "addStep", "(III)V"⟩, 6), (⟨"RecastStage$Sentence", "readPlainOne", "(LRecastStage$Reader;LRecastStage$Play;I)V"⟩, 6), (⟨"RecastStage$Sentence", "menOfOne", "(ILRecastStage$Play;LRecastStage$Evening;)I"⟩, 6), (⟨"RecastStage$Sentence", "holdsFor", "(IILRecastStage$Play;LRecastStage$Evening;)Z"⟩, 6), (⟨"RecastStage$Sentence", "compares", "(II)Z"⟩, 6), (⟨"java/lang/Throwable", "fillInStackTrace", "(I)Ljava/lang/Throwable;"⟩, 6), (⟨"RecastStageModel", "four", "(I)V"⟩, 54), (⟨"RecastStageModel", "taken", "(I)V"⟩, 54), (⟨"RecastStageModel", "go", "()V"⟩, 54), (⟨"RecastStageModel", "peek", "()I"⟩, 54), (⟨"RecastStageModel", "line", "()Z"⟩, 54)]
theorem lw_r3 : ∀ q ∈ lw_privs_3, lw_okq q := List.forall_mem_cons.mpr ⟨lw_p32, List.forall_mem_cons.mpr ⟨lw_p33, List.forall_mem_cons.mpr ⟨lw_p34, List.forall_mem_cons.mpr ⟨lw_p35, List.forall_mem_cons.mpr ⟨lw_p36, List.forall_mem_cons.mpr ⟨lw_p37, List.forall_mem_cons.mpr ⟨lw_p38, List.forall_mem_cons.mpr ⟨lw_p39, List.forall_mem_cons.mpr ⟨lw_p40, List.forall_mem_cons.mpr ⟨lw_p41, List.forall_mem_cons.mpr ⟨lw_p42, List.forall_mem_cons.mpr ⟨lw_p43, List.forall_mem_cons.mpr ⟨lw_p44, List.forall_mem_cons.mpr ⟨lw_p45, List.forall_mem_cons.mpr ⟨lw_p46, List.forall_mem_cons.mpr ⟨lw_p47, fun _ h => absurd h List.not_mem_nil⟩⟩⟩⟩⟩⟩⟩⟩⟩⟩⟩⟩⟩⟩⟩⟩
theorem lw_p48 : lw_okq (⟨"RecastStageModel", "isWord", "(J)Z"⟩, 54) := ⟨⟨by decide +kernel, by decide +kernel⟩, List.mem_of_getElem? (i := 1381) (by decide +kernel), List.mem_of_getElem? (i := 1610) (by decide +kernel), List.mem_of_getElem? (i := 1611) (by decide +kernel)⟩
theorem lw_p49 : lw_okq (⟨"RecastStageModel", "bad", "(I)Z"⟩, 54) := ⟨⟨by decide +kernel, by decide +kernel⟩, List.mem_of_getElem? (i := 1381) (by decide +kernel), List.mem_of_getElem? (i := 1614) (by decide +kernel), List.mem_of_getElem? (i := 1615) (by decide +kernel)⟩
theorem lw_p50 : lw_okq (⟨"RecastStageModel", "fresh", "(I)Z"⟩, 54) := ⟨⟨by decide +kernel, by decide +kernel⟩, List.mem_of_getElem? (i := 1381) (by decide +kernel), List.mem_of_getElem? (i := 1618) (by decide +kernel), List.mem_of_getElem? (i := 1619) (by decide +kernel)⟩
theorem lw_p51 : lw_okq (⟨"RecastStageModel", "isName", "()Z"⟩, 54) := ⟨⟨by decide +kernel, by decide +kernel⟩, List.mem_of_getElem? (i := 1381) (by decide +kernel), List.mem_of_getElem? (i := 1622) (by decide +kernel), List.mem_of_getElem? (i := 1623) (by decide +kernel)⟩
theorem lw_p52 : lw_okq (⟨"RecastStageModel", "find", "(II)I"⟩, 54) := ⟨⟨by decide +kernel, by decide +kernel⟩, List.mem_of_getElem? (i := 1381) (by decide +kernel), List.mem_of_getElem? (i := 1626) (by decide +kernel), List.mem_of_getElem? (i := 1627) (by decide +kernel)⟩
theorem lw_p53 : lw_okq (⟨"RecastStageModel", "takes", "(II)Z"⟩, 54) := ⟨⟨by decide +kernel, by decide +kernel⟩, List.mem_of_getElem? (i := 1381) (by decide +kernel), List.mem_of_getElem? (i := 1630) (by decide +kernel), List.mem_of_getElem? (i := 1631) (by decide +kernel)⟩
theorem lw_p54 : lw_okq (⟨"RecastStageModel", "readScene", "()Z"⟩, 54) := ⟨⟨by decide +kernel, by decide +kernel⟩, List.mem_of_getElem? (i := 1381) (by decide +kernel), List.mem_of_getElem? (i := 1637) (by decide +kernel), List.mem_of_getElem? (i := 1638) (by decide +kernel)⟩
theorem lw_p55 : lw_okq (⟨"RecastStageModel", "isSign", "(I)Z"⟩, 54) := ⟨⟨by decide +kernel, by decide +kernel⟩, List.mem_of_getElem? (i := 1381) (by decide +kernel), List.mem_of_getElem? (i := 1641) (by decide +kernel), List.mem_of_getElem? (i := 1642) (by decide +kernel)⟩
theorem lw_p56 : lw_okq (⟨"RecastStageModel", "looksAt", "(II)Z"⟩, 54) := ⟨⟨by decide +kernel, by decide +kernel⟩, List.mem_of_getElem? (i := 1381) (by decide +kernel), List.mem_of_getElem? (i := 1645) (by decide +kernel), List.mem_of_getElem? (i := 1646) (by decide +kernel)⟩
theorem lw_p57 : lw_okq (⟨"RecastStageModel", "sets", "(I)Z"⟩, 54) := ⟨⟨by decide +kernel, by decide +kernel⟩, List.mem_of_getElem? (i := 1381) (by decide +kernel), List.mem_of_getElem? (i := 1649) (by decide +kernel), List.mem_of_getElem? (i := 1650) (by decide +kernel)⟩
theorem lw_p58 : lw_okq (⟨"RecastStageModel", "pairs", "()Z"⟩, 54) := ⟨⟨by decide +kernel, by decide +kernel⟩, List.mem_of_getElem? (i := 1381) (by decide +kernel), List.mem_of_getElem? (i := 1656) (by decide +kernel), List.mem_of_getElem? (i := 1657) (by decide +kernel)⟩
theorem lw_p59 : lw_okq (⟨"RecastStageModel", "takesName", "(II)Z"⟩, 54) := ⟨⟨by decide +kernel, by decide +kernel⟩, List.mem_of_getElem? (i := 1381) (by decide +kernel), List.mem_of_getElem? (i := 1660) (by decide +kernel), List.mem_of_getElem? (i := 1661) (by decide +kernel)⟩
theorem lw_p60 : lw_okq (⟨"RecastStageModel", "sign", "(I)Z"⟩, 54) := ⟨⟨by decide +kernel, by decide +kernel⟩, List.mem_of_getElem? (i := 1381) (by decide +kernel), List.mem_of_getElem? (i := 1664) (by decide +kernel), List.mem_of_getElem? (i := 1665) (by decide +kernel)⟩
theorem lw_p61 : lw_okq (⟨"RecastStageModel", "isPart", "(I)Z"⟩, 54) := ⟨⟨by decide +kernel, by decide +kernel⟩, List.mem_of_getElem? (i := 1381) (by decide +kernel), List.mem_of_getElem? (i := 1676) (by decide +kernel), List.mem_of_getElem? (i := 1677) (by decide +kernel)⟩
theorem lw_p62 : lw_okq (⟨"RecastStageModel", "partsOf", "(I)I"⟩, 54) := ⟨⟨by decide +kernel, by decide +kernel⟩, List.mem_of_getElem? (i := 1381) (by decide +kernel), List.mem_of_getElem? (i := 1680) (by decide +kernel), List.mem_of_getElem? (i := 1681) (by decide +kernel)⟩
theorem lw_p63 : lw_okq (⟨"RecastStageModel", "castAs", "(I)I"⟩, 54) := ⟨⟨by decide +kernel, by decide +kernel⟩, List.mem_of_getElem? (i := 1381) (by decide +kernel), List.mem_of_getElem? (i := 1684) (by decide +kernel), List.mem_of_getElem? (i := 1685) (by decide +kernel)⟩
def lw_privs_4 : List (MethodName × Nat) := [(⟨"RecastStageModel", "isWord", "(J)Z"⟩, 54), (⟨"RecastStageModel", "bad", "(I)Z"⟩, 54), (⟨"RecastStageModel", "fresh", "(I)Z"⟩, 54), (⟨"RecastStageModel", "isName", "()Z"⟩, 54), (⟨"RecastStageModel", "find", "(II)I"⟩, 54), (⟨"RecastStageModel", "takes", "(II)Z"⟩, 54), (⟨"RecastStageModel", "readScene", "()Z"⟩, 54), (⟨"RecastStageModel", "isSign", "(I)Z"⟩, 54), (⟨"RecastStageModel", "looksAt", "(II)Z"⟩, 54), (⟨"RecastStageModel", "sets", "(I)Z"⟩, 54), (⟨"RecastStageModel", "pairs", "()Z"⟩, 54), (⟨"RecastStageModel", "takesName", "(II)Z"⟩, 54), (⟨"RecastStageModel", "sign", "(I)Z"⟩, 54), (⟨"RecastStageModel", "isPart", "(I)Z"⟩, 54), (⟨"RecastStageModel", "partsOf", "(I)I"⟩, 54), (⟨"RecastStageModel", "castAs", "(I)I"⟩, 54)]
theorem lw_r4 : ∀ q ∈ lw_privs_4, lw_okq q := List.forall_mem_cons.mpr ⟨lw_p48, List.forall_mem_cons.mpr ⟨lw_p49, List.forall_mem_cons.mpr ⟨lw_p50, List.forall_mem_cons.mpr ⟨lw_p51, List.forall_mem_cons.mpr ⟨lw_p52, List.forall_mem_cons.mpr ⟨lw_p53, List.forall_mem_cons.mpr ⟨lw_p54, List.forall_mem_cons.mpr ⟨lw_p55, List.forall_mem_cons.mpr ⟨lw_p56, List.forall_mem_cons.mpr ⟨lw_p57, List.forall_mem_cons.mpr ⟨lw_p58, List.forall_mem_cons.mpr ⟨lw_p59, List.forall_mem_cons.mpr ⟨lw_p60, List.forall_mem_cons.mpr ⟨lw_p61, List.forall_mem_cons.mpr ⟨lw_p62, List.forall_mem_cons.mpr ⟨lw_p63, fun _ h => absurd h List.not_mem_nil⟩⟩⟩⟩⟩⟩⟩⟩⟩⟩⟩⟩⟩⟩⟩⟩
theorem lw_p64 : lw_okq (⟨"RecastStageModel", "isMan", "(I)Z"⟩, 54) := ⟨⟨by decide +kernel, by decide +kernel⟩, List.mem_of_getElem? (i := 1381) (by decide +kernel), List.mem_of_getElem? (i := 1692) (by decide +kernel), List.mem_of_getElem? (i := 1693) (by decide +kernel)⟩
theorem lw_p65 : lw_okq (⟨"RecastStageModel", "throwsIf", "(Z)Z"⟩, 54) := ⟨⟨by decide +kernel, by decide +kernel⟩, List.mem_of_getElem? (i := 1381) (by decide +kernel), List.mem_of_getElem? (i := 1696) (by decide +kernel), List.mem_of_getElem? (i := 1697) (by decide +kernel)⟩
theorem lw_p66 : lw_okq (⟨"RecastStageModel", "factsOf", "(I)I"⟩, 54) := ⟨⟨by decide +kernel, by decide +kernel⟩, List.mem_of_getElem? (i := 1381) (by decide +kernel), List.mem_of_getElem? (i := 1704) (by decide +kernel), List.mem_of_getElem? (i := 1705) (by decide +kernel)⟩
theorem lw_p67 : lw_okq (⟨"RecastStageModel", "castNow", "()I"⟩, 54) := ⟨⟨by decide +kernel, by decide +kernel⟩, List.mem_of_getElem? (i := 1381) (by decide +kernel), List.mem_of_getElem? (i := 1716) (by decide +kernel), List.mem_of_getElem? (i := 1717) (by decide +kernel)⟩
theorem lw_p68 : lw_okq (⟨"RecastStageModel", "whyOf", "(II)I"⟩, 54) := ⟨⟨by decide +kernel, by decide +kernel⟩, List.mem_of_getElem? (i := 1381) (by decide +kernel), List.mem_of_getElem? (i := 1724) (by decide +kernel), List.mem_of_getElem? (i := 1725) (by decide +kernel)⟩
theorem lw_p69 : lw_okq (⟨"RecastStageModel", "whyAlone", "(II)I"⟩, 54) := ⟨⟨by decide +kernel, by decide +kernel⟩, List.mem_of_getElem? (i := 1381) (by decide +kernel), List.mem_of_getElem? (i := 1728) (by decide +kernel), List.mem_of_getElem? (i := 1729) (by decide +kernel)⟩
theorem lw_p70 : lw_okq (⟨"RecastStageModel", "isOver", "()Z"⟩, 54) := ⟨⟨by decide +kernel, by decide +kernel⟩, List.mem_of_getElem? (i := 1381) (by decide +kernel), List.mem_of_getElem? (i := 1732) (by decide +kernel), List.mem_of_getElem? (i := 1733) (by decide +kernel)⟩
theorem lw_p71 : lw_okq (⟨"RecastStageModel", "lacking", "(II)I"⟩, 54) := ⟨⟨by decide +kernel, by decide +kernel⟩, List.mem_of_getElem? (i := 1381) (by decide +kernel), List.mem_of_getElem? (i := 1736) (by decide +kernel), List.mem_of_getElem? (i := 1737) (by decide +kernel)⟩
theorem lw_p72 : lw_okq (⟨"RecastStageModel", "areTogether", "(II)Z"⟩, 54) := ⟨⟨by decide +kernel, by decide +kernel⟩, List.mem_of_getElem? (i := 1381) (by decide +kernel), List.mem_of_getElem? (i := 1740) (by decide +kernel), List.mem_of_getElem? (i := 1741) (by decide +kernel)⟩
theorem lw_p73 : lw_okq (⟨"RecastStageModel", "keep", "()V"⟩, 54) := ⟨⟨by decide +kernel, by decide +kernel⟩, List.mem_of_getElem? (i := 1381) (by decide +kernel), List.mem_of_getElem? (i := 1748) (by decide +kernel), List.mem_of_getElem? (i := 1749) (by decide +kernel)⟩
theorem lw_p74 : lw_okq (⟨"RecastStageModel", "canRise", "()Z"⟩, 54) := ⟨⟨by decide +kernel, by decide +kernel⟩, List.mem_of_getElem? (i := 1381) (by decide +kernel), List.mem_of_getElem? (i := 1760) (by decide +kernel), List.mem_of_getElem? (i := 1761) (by decide +kernel)⟩
theorem lw_p75 : lw_okq (⟨"RecastStageModel", "rises", "()V"⟩, 54) := ⟨⟨by decide +kernel, by decide +kernel⟩, List.mem_of_getElem? (i := 1381) (by decide +kernel), List.mem_of_getElem? (i := 1764) (by decide +kernel), List.mem_of_getElem? (i := 1765) (by decide +kernel)⟩
theorem lw_p76 : lw_okq (⟨"RecastStageModel", "clapsFor", "(I)I"⟩, 54) := ⟨⟨by decide +kernel, by decide +kernel⟩, List.mem_of_getElem? (i := 1381) (by decide +kernel), List.mem_of_getElem? (i := 1768) (by decide +kernel), List.mem_of_getElem? (i := 1769) (by decide +kernel)⟩
theorem lw_p77 : lw_okq (⟨"RecastStageModel", "plays", "(II)V"⟩, 54) := ⟨⟨by decide +kernel, by decide +kernel⟩, List.mem_of_getElem? (i := 1381) (by decide +kernel), List.mem_of_getElem? (i := 1772) (by decide +kernel), List.mem_of_getElem? (i := 1773) (by decide +kernel)⟩
theorem lw_p78 : lw_okq (⟨"RecastStageModel", "drops", "()V"⟩, 54) := ⟨⟨by decide +kernel, by decide +kernel⟩, List.mem_of_getElem? (i := 1381) (by decide +kernel), List.mem_of_getElem? (i := 1779) (by decide +kernel), List.mem_of_getElem? (i := 1780) (by decide +kernel)⟩
theorem lw_p79 : lw_okq (⟨"RecastStageModel", "canWhisper", "(II)Z"⟩, 54) := ⟨⟨by decide +kernel, by decide +kernel⟩, List.mem_of_getElem? (i := 1381) (by decide +kernel), List.mem_of_getElem? (i := 1787) (by decide +kernel), List.mem_of_getElem? (i := 1788) (by decide +kernel)⟩
def lw_privs_5 : List (MethodName × Nat) := [(⟨"RecastStageModel", "isMan", "(I)Z"⟩, 54), (⟨"RecastStageModel", "throwsIf", "(Z)Z"⟩, 54), (⟨"RecastStageModel", "factsOf", "(I)I"⟩, 54), (⟨"RecastStageModel", "castNow", "()I"⟩, 54), (⟨"RecastStageModel", "whyOf", "(II)I"⟩, 54), (⟨"RecastStageModel", "whyAlone", "(II)I"⟩, 54), (⟨"RecastStageModel", "isOver", "()Z"⟩, 54), (⟨"RecastStageModel", "lacking", "(II)I"⟩, 54), (⟨"RecastStageModel", "areTogether", "(II)Z"⟩, 54), (⟨"RecastStageModel", "keep", "()V"⟩, 54), (⟨"RecastStageModel", "canRise", "()Z"⟩, 54), (⟨"RecastStageModel", "rises", "()V"⟩, 54), (⟨"RecastStageModel", "clapsFor", "(I)I"⟩, 54), (⟨"RecastStageModel", "plays", "(II)V"⟩, 54), (⟨"RecastStageModel", "drops", "()V"⟩, 54), (⟨"RecastStageModel", "canWhisper", "(II)Z"⟩, 54)]
theorem lw_r5 : ∀ q ∈ lw_privs_5, lw_okq q := List.forall_mem_cons.mpr ⟨lw_p64, List.forall_mem_cons.mpr ⟨lw_p65, List.forall_mem_cons.mpr ⟨lw_p66, List.forall_mem_cons.mpr ⟨lw_p67, List.forall_mem_cons.mpr ⟨lw_p68, List.forall_mem_cons.mpr ⟨lw_p69, List.forall_mem_cons.mpr ⟨lw_p70, List.forall_mem_cons.mpr ⟨lw_p71, List.forall_mem_cons.mpr ⟨lw_p72, List.forall_mem_cons.mpr ⟨lw_p73, List.forall_mem_cons.mpr ⟨lw_p74, List.forall_mem_cons.mpr ⟨lw_p75, List.forall_mem_cons.mpr ⟨lw_p76, List.forall_mem_cons.mpr ⟨lw_p77, List.forall_mem_cons.mpr ⟨lw_p78, List.forall_mem_cons.mpr ⟨lw_p79, fun _ h => absurd h List.not_mem_nil⟩⟩⟩⟩⟩⟩⟩⟩⟩⟩⟩⟩⟩⟩⟩⟩
theorem lw_p80 : lw_okq (⟨"RecastStageModel", "whispers", "(II)V"⟩, 54) := ⟨⟨by decide +kernel, by decide +kernel⟩, List.mem_of_getElem? (i := 1381) (by decide +kernel), List.mem_of_getElem? (i := 1791) (by decide +kernel), List.mem_of_getElem? (i := 1792) (by decide +kernel)⟩
theorem lw_p81 : lw_okq (⟨"RecastStageModel", "castsBy", "(ZI)V"⟩, 54) := ⟨⟨by decide +kernel, by decide +kernel⟩, List.mem_of_getElem? (i := 1381) (by decide +kernel), List.mem_of_getElem? (i := 1803) (by decide +kernel), List.mem_of_getElem? (i := 1804) (by decide +kernel)⟩
theorem lw_p82 : lw_okq (⟨"RecastStageModel", "counts", "(II)V"⟩, 54) := ⟨⟨by decide +kernel, by decide +kernel⟩, List.mem_of_getElem? (i := 1381) (by decide +kernel), List.mem_of_getElem? (i := 1807) (by decide +kernel), List.mem_of_getElem? (i := 1808) (by decide +kernel)⟩
theorem lw_p83 : lw_okq (⟨"RecastStageModel", "fits", "(IZ)Z"⟩, 54) := ⟨⟨by decide +kernel, by decide +kernel⟩, List.mem_of_getElem? (i := 1381) (by decide +kernel), List.mem_of_getElem? (i := 1814) (by decide +kernel), List.mem_of_getElem? (i := 1815) (by decide +kernel)⟩
theorem lw_p84 : lw_okq (⟨"RecastStageModel", "canAlone", "(II)Z"⟩, 54) := ⟨⟨by decide +kernel, by decide +kernel⟩, List.mem_of_getElem? (i := 1381) (by decide +kernel), List.mem_of_getElem? (i := 1818) (by decide +kernel), List.mem_of_getElem? (i := 1819) (by decide +kernel)⟩
theorem lw_p85 : lw_okq (⟨"RecastStageModel", "suspectsBy", "(I)I"⟩, 54) := ⟨⟨by decide +kernel, by decide +kernel⟩, List.mem_of_getElem? (i := 1381) (by decide +kernel), List.mem_of_getElem? (i := 1854) (by decide +kernel), List.mem_of_getElem? (i := 1855) (by decide +kernel)⟩
theorem lw_p86 : lw_okq (⟨"RecastStageModel", "isSure", "(I)Z"⟩, 54) := ⟨⟨by decide +kernel, by decide +kernel⟩, List.mem_of_getElem? (i := 1381) (by decide +kernel), List.mem_of_getElem? (i := 1862) (by decide +kernel), List.mem_of_getElem? (i := 1863) (by decide +kernel)⟩
theorem lw_p87 : lw_okq (⟨"RecastStageModel", "wantOf", "(I)I"⟩, 54) := ⟨⟨by decide +kernel, by decide +kernel⟩, List.mem_of_getElem? (i := 1381) (by decide +kernel), List.mem_of_getElem? (i := 1874) (by decide +kernel), List.mem_of_getElem? (i := 1875) (by decide +kernel)⟩
theorem lw_p88 : lw_okq (⟨"RecastStageModel", "goesOnBy", "()I"⟩, 54) := ⟨⟨by decide +kernel, by decide +kernel⟩, List.mem_of_getElem? (i := 1381) (by decide +kernel), List.mem_of_getElem? (i := 1890) (by decide +kernel), List.mem_of_getElem? (i := 1891) (by decide +kernel)⟩
theorem lw_p89 : lw_okq (⟨"RecastStageModel", "tries", "()V"⟩, 54) := ⟨⟨by decide +kernel, by decide +kernel⟩, List.mem_of_getElem? (i := 1381) (by decide +kernel), List.mem_of_getElem? (i := 1894) (by decide +kernel), List.mem_of_getElem? (i := 1895) (by decide +kernel)⟩
theorem lw_p90 : lw_okq (⟨"RecastStageModel", "castsBest", "()Z"⟩, 54) := ⟨⟨by decide +kernel, by decide +kernel⟩, List.mem_of_getElem? (i := 1381) (by decide +kernel), List.mem_of_getElem? (i := 1898) (by decide +kernel), List.mem_of_getElem? (i := 1899) (by decide +kernel)⟩
theorem lw_p91 : lw_okq (⟨"RecastStageModel", "back", "()V"⟩, 54) := ⟨⟨by decide +kernel, by decide +kernel⟩, List.mem_of_getElem? (i := 1381) (by decide +kernel), List.mem_of_getElem? (i := 1902) (by decide +kernel), List.mem_of_getElem? (i := 1903) (by decide +kernel)⟩
theorem lw_p92 : lw_okq (⟨"RecastStageModel", "valueOf", "(II)I"⟩, 54) := ⟨⟨by decide +kernel, by decide +kernel⟩, List.mem_of_getElem? (i := 1381) (by decide +kernel), List.mem_of_getElem? (i := 1914) (by decide +kernel), List.mem_of_getElem? (i := 1915) (by decide +kernel)⟩
theorem lw_p93 : lw_okq (⟨"RecastStageModel", "draws", "(I)I"⟩, 54) := ⟨⟨by decide +kernel, by decide +kernel⟩, List.mem_of_getElem? (i := 1381) (by decide +kernel), List.mem_of_getElem? (i := 1922) (by decide +kernel), List.mem_of_getElem? (i := 1923) (by decide +kernel)⟩
theorem lw_p94 : lw_okq (⟨"RecastStageModel", "draw", "(I)I"⟩, 54) := ⟨⟨by decide +kernel, by decide +kernel⟩, List.mem_of_getElem? (i := 1381) (by decide +kernel), List.mem_of_getElem? (i := 1926) (by decide +kernel), List.mem_of_getElem? (i := 1927) (by decide +kernel)⟩
theorem lw_p95 : lw_okq (⟨"RecastStageModel", "bookLine", "()Z"⟩, 54) := ⟨⟨by decide +kernel, by decide +kernel⟩, List.mem_of_getElem? (i := 1381) (by decide +kernel), List.mem_of_getElem? (i := 1939) (by decide +kernel), List.mem_of_getElem? (i := 1940) (by decide +kernel)⟩
def lw_privs_6 : List (MethodName × Nat) := [(⟨"RecastStageModel", "whispers", "(II)V"⟩, 54), (⟨"RecastStageModel", "castsBy", "(ZI)V"⟩, 54), (⟨"RecastStageModel", "counts", "(II)V"⟩, 54), (⟨"RecastStageModel", "fits", "(IZ)Z"⟩, 54), (⟨"RecastStageModel", "canAlone", "(II)Z"⟩, 54), (⟨"RecastStageModel", "suspectsBy", "(I)I"⟩, 54), (⟨"RecastStageModel", "isSure", "(I)Z"⟩, 54), (⟨"RecastStageModel", "wantOf", "(I)I"⟩, 54), (⟨"RecastStageModel", "goesOnBy", "()I"⟩, 54), (⟨"RecastStageModel", "tries", "()V"⟩, 54), (⟨"RecastStageModel", "castsBest", "()Z"⟩, 54), (⟨"RecastStageModel", "back", "()V"⟩, 54), (⟨"RecastStageModel", "valueOf", "(II)I"⟩, 54), (⟨"RecastStageModel", "draws", "(I)I"⟩, 54), (⟨"RecastStageModel", "draw", "(I)I"⟩, 54), (⟨"RecastStageModel", "bookLine", "()Z"⟩, 54)]
theorem lw_r6 : ∀ q ∈ lw_privs_6, lw_okq q := List.forall_mem_cons.mpr ⟨lw_p80, List.forall_mem_cons.mpr ⟨lw_p81, List.forall_mem_cons.mpr ⟨lw_p82, List.forall_mem_cons.mpr ⟨lw_p83, List.forall_mem_cons.mpr ⟨lw_p84, List.forall_mem_cons.mpr ⟨lw_p85, List.forall_mem_cons.mpr ⟨lw_p86, List.forall_mem_cons.mpr ⟨lw_p87, List.forall_mem_cons.mpr ⟨lw_p88, List.forall_mem_cons.mpr ⟨lw_p89, List.forall_mem_cons.mpr ⟨lw_p90, List.forall_mem_cons.mpr ⟨lw_p91, List.forall_mem_cons.mpr ⟨lw_p92, List.forall_mem_cons.mpr ⟨lw_p93, List.forall_mem_cons.mpr ⟨lw_p94, List.forall_mem_cons.mpr ⟨lw_p95, fun _ h => absurd h List.not_mem_nil⟩⟩⟩⟩⟩⟩⟩⟩⟩⟩⟩⟩⟩⟩⟩⟩
theorem lw_p96 : lw_okq (⟨"RecastStageModel", "does", "(I)I"⟩, 54) := ⟨⟨by decide +kernel, by decide +kernel⟩, List.mem_of_getElem? (i := 1381) (by decide +kernel), List.mem_of_getElem? (i := 1943) (by decide +kernel), List.mem_of_getElem? (i := 1944) (by decide +kernel)⟩
theorem lw_p97 : lw_okq (⟨"RecastStageModel", "nots", "()V"⟩, 54) := ⟨⟨by decide +kernel, by decide +kernel⟩, List.mem_of_getElem? (i := 1381) (by decide +kernel), List.mem_of_getElem? (i := 1955) (by decide +kernel), List.mem_of_getElem? (i := 1956) (by decide +kernel)⟩
theorem lw_p98 : lw_okq (⟨"RecastStageModel", "code", "(III)V"⟩, 54) := ⟨⟨by decide +kernel, by decide +kernel⟩, List.mem_of_getElem? (i := 1381) (by decide +kernel), List.mem_of_getElem? (i := 1959) (by decide +kernel), List.mem_of_getElem? (i := 1960) (by decide +kernel)⟩
theorem lw_p99 : lw_okq (⟨"RecastStageModel", "joins", "(I)V"⟩, 54) := ⟨⟨by decide +kernel, by decide +kernel⟩, List.mem_of_getElem? (i := 1381) (by decide +kernel), List.mem_of_getElem? (i := 1963) (by decide +kernel), List.mem_of_getElem? (i := 1964) (by decide +kernel)⟩
theorem lw_p100 : lw_okq (⟨"RecastStageModel", "behind", "()Z"⟩, 54) := ⟨⟨by decide +kernel, by decide +kernel⟩, List.mem_of_getElem? (i := 1381) (by decide +kernel), List.mem_of_getElem? (i := 1967) (by decide +kernel), List.mem_of_getElem? (i := 1968) (by decide +kernel)⟩
theorem lw_p101 : lw_okq (⟨"RecastStageModel", "operand", "()Z"⟩, 54) := ⟨⟨by decide +kernel, by decide +kernel⟩, List.mem_of_getElem? (i := 1381) (by decide +kernel), List.mem_of_getElem? (i := 1971) (by decide +kernel), List.mem_of_getElem? (i := 1972) (by decide +kernel)⟩
theorem lw_p102 : lw_okq (⟨"RecastStageModel", "leafOf", "()I"⟩, 54) := ⟨⟨by decide +kernel, by decide +kernel⟩, List.mem_of_getElem? (i := 1381) (by decide +kernel), List.mem_of_getElem? (i := 1975) (by decide +kernel), List.mem_of_getElem? (i := 1976) (by decide +kernel)⟩
theorem lw_p103 : lw_okq (⟨"RecastStageModel", "isSaid", "(I)Z"⟩, 54) := ⟨⟨by decide +kernel, by decide +kernel⟩, List.mem_of_getElem? (i := 1381) (by decide +kernel), List.mem_of_getElem? (i := 1983) (by decide +kernel), List.mem_of_getElem? (i := 1984) (by decide +kernel)⟩
theorem lw_p104 : lw_okq (⟨"RecastStageModel", "isLeaf", "(IIII)Z"⟩, 54) := ⟨⟨by decide +kernel, by decide +kernel⟩, List.mem_of_getElem? (i := 1381) (by decide +kernel), List.mem_of_getElem? (i := 1987) (by decide +kernel), List.mem_of_getElem? (i := 1988) (by decide +kernel)⟩
def lw_privs_7 : List (MethodName × Nat) := [(⟨"RecastStageModel", "does", "(I)I"⟩, 54), (⟨"RecastStageModel", "nots", "()V"⟩, 54), (⟨"RecastStageModel", "code", "(III)V"⟩, 54), (⟨"RecastStageModel", "joins", "(I)V"⟩, 54), (⟨"RecastStageModel", "behind", "()Z"⟩, 54), (⟨"RecastStageModel", "operand", "()Z"⟩, 54), (⟨"RecastStageModel", "leafOf", "()I"⟩, 54), (⟨"RecastStageModel", "isSaid", "(I)Z"⟩, 54), (⟨"RecastStageModel", "isLeaf", "(IIII)Z"⟩, 54)]
theorem lw_r7 : ∀ q ∈ lw_privs_7, lw_okq q := List.forall_mem_cons.mpr ⟨lw_p96, List.forall_mem_cons.mpr ⟨lw_p97, List.forall_mem_cons.mpr ⟨lw_p98, List.forall_mem_cons.mpr ⟨lw_p99, List.forall_mem_cons.mpr ⟨lw_p100, List.forall_mem_cons.mpr ⟨lw_p101, List.forall_mem_cons.mpr ⟨lw_p102, List.forall_mem_cons.mpr ⟨lw_p103, List.forall_mem_cons.mpr ⟨lw_p104, fun _ h => absurd h List.not_mem_nil⟩⟩⟩⟩⟩⟩⟩⟩⟩
def lw_privs : List (MethodName × Nat) := lw_privs_1 ++ (lw_privs_2 ++ (lw_privs_3 ++ (lw_privs_4 ++ (lw_privs_5 ++ (lw_privs_6 ++ (lw_privs_7))))))
def lw_tbl : List Cond := k2_sels lw_privs ++ tables_1
theorem lw_privs_ok : ∀ q ∈ lw_privs, lw_okq q := by
  show ∀ q ∈ lw_privs_1 ++ (lw_privs_2 ++ (lw_privs_3 ++ (lw_privs_4 ++ (lw_privs_5 ++ (lw_privs_6 ++ (lw_privs_7)))))), lw_okq q
  exact List.forall_mem_append.mpr ⟨lw_r1, List.forall_mem_append.mpr ⟨lw_r2, List.forall_mem_append.mpr ⟨lw_r3, List.forall_mem_append.mpr ⟨lw_r4, List.forall_mem_append.mpr ⟨lw_r5, List.forall_mem_append.mpr ⟨lw_r6, lw_r7⟩⟩⟩⟩⟩⟩
/-! ===== BEGIN words of one list among another's, by their places ===== -/
theorem goodIn_r {big : List Cond} (ws : List Cond) (ps : List Nat) (hp : ws = ps.filterMap (fun i => big[i]?)) (h : ws.all goodWord = true) : GoodIn big ws := by
  intro w hw
  have h1 := List.all_eq_true.mp h w hw
  rw [hp] at hw
  obtain ⟨i, -, hi⟩ := List.mem_filterMap.mp hw
  have hm : w ∈ big := by first | exact List.mem_of_getElem? hi | exact List.getElem?_mem hi
  exact ⟨hm, good_of_word h1⟩
theorem goodIn_app {big a b : List Cond} (ha : GoodIn big a) (hb : GoodIn big b) : GoodIn big (a ++ b) := fun w h => (List.mem_append.mp h).elim (ha w) (hb w)
theorem goodIn_ca {big a b : List Cond} {c : Cond} (ha : GoodIn big (c :: a)) (hb : GoodIn big b) : GoodIn big (c :: (a ++ b)) := fun w h => (List.mem_cons.mp h).elim (fun e => ha w (List.mem_cons.mpr (Or.inl e))) (fun h => (List.mem_append.mp h).elim (fun h => ha w (List.mem_cons.mpr (Or.inr h))) (hb w))
theorem goodIn_sub {big ws : List Cond} (hm : ∀ w ∈ ws, w ∈ big) (h : ws.all goodWord = true) : GoodIn big ws := fun w hw => ⟨hm w hw, good_of_word (List.all_eq_true.mp h w hw)⟩
/-! ===== END ===== -/
/-! ===== BEGIN printed: names, fields, word lists, decode rows ===== -/
def RX0 : String := "RecastStage$Book"
def TX0 : u_T := fun k => match k with
  | 0 => ("RecastStage$Book", "lines", "I", false)
  | 1 => ("RecastStage$Book", "deeds", "[I", true)
  | 2 => ("RecastStage$Book", "men", "[I", true)
  | 3 => ("RecastStage$Book", "things", "[I", true)
  | 4 => ("RecastStage$Book", "judged", "Z", false)
  | 5 => ("RecastStage$Book", "reason", "I", false)
  | 6 => ("RecastStage$Book", "rightLines", "I", false)
  | 7 => ("RecastStage$Book", "nextThen", "I", false)
  | _ => ("RecastStage$Book", "joyInIt", "I", false)
def tyX0 : Nat → FieldType := fun k => match k with
  | 0 => .int
  | 1 => .array .int
  | 2 => .array .int
  | 3 => .array .int
  | 4 => .boolean
  | 5 => .int
  | 6 => .int
  | 7 => .int
  | _ => .int
abbrev wsX00 : List Cond := u_ws RX0 TX0 9
theorem nmX0 : ∀ a, a < 9 → ∀ b, b < 9 → a ≠ b → (TX0 a).2.1 ≠ (TX0 b).2.1 := by decide +kernel
theorem tyX0_ok : ∀ k, k < 9 → parseFieldDescriptor (TX0 k).2.2.1 = some (tyX0 k) := by decide +kernel
abbrev cX0_init : ByteArray := prog_2_method_1_code
def yX0_init : MethodName := ⟨RX0, "<init>", "()V"⟩
abbrev cX0_read : ByteArray := prog_2_method_2_code
def yX0_read : MethodName := ⟨RX0, "read", "(LRecastStage$Reader;LRecastStage$Play;)V"⟩
abbrev cX0_readLine : ByteArray := prog_2_method_3_code
def yX0_readLine : MethodName := ⟨RX0, "readLine", "(LRecastStage$Reader;LRecastStage$Play;)V"⟩
abbrev cX0_canBegin : ByteArray := prog_2_method_4_code
def yX0_canBegin : MethodName := ⟨RX0, "canBegin", "(LRecastStage$Reader;I)Z"⟩
abbrev cX0_judge : ByteArray := prog_2_method_5_code
def yX0_judge : MethodName := ⟨RX0, "judge", "(LRecastStage$Play;LRecastStage$Evening;LRecastStage$Casting;)I"⟩
abbrev cX0_whyWrong : ByteArray := prog_2_method_6_code
def yX0_whyWrong : MethodName := ⟨RX0, "whyWrong", "(ILRecastStage$Play;LRecastStage$Evening;LRecastStage$Casting;)I"⟩
def RX1 : String := "RecastStage$Casting"
def TX1 : u_T := fun k => match k with
  | 0 => ("RecastStage$Casting", "men", "I", false)
  | 1 => ("RecastStage$Casting", "foes", "[I", true)
  | 2 => ("RecastStage$Casting", "levels", "I", false)
  | 3 => ("RecastStage$Casting", "partAt", "[I", true)
  | 4 => ("RecastStage$Casting", "ableAt", "[I", true)
  | 5 => ("RecastStage$Casting", "besideAt", "[I", true)
  | 6 => ("RecastStage$Casting", "costs", "[I", true)
  | 7 => ("RecastStage$Casting", "cheapestFrom", "[I", true)
  | 8 => ("RecastStage$Casting", "manAt", "[I", true)
  | 9 => ("RecastStage$Casting", "foundAt", "[I", true)
  | 10 => ("RecastStage$Casting", "cheapest", "I", false)
  | 11 => ("RecastStage$Casting", "total", "I", false)
  | _ => ("RecastStage$Casting", "always", "I", false)
def tyX1 : Nat → FieldType := fun k => match k with
  | 0 => .int
  | 1 => .array .int
  | 2 => .int
  | 3 => .array .int
  | 4 => .array .int
  | 5 => .array .int
  | 6 => .array .int
  | 7 => .array .int
  | 8 => .array .int
  | 9 => .array .int
  | 10 => .int
  | 11 => .int
  | _ => .int
abbrev wsX10 : List Cond := u_ws RX1 TX1 13
theorem nmX1 : ∀ a, a < 13 → ∀ b, b < 13 → a ≠ b → (TX1 a).2.1 ≠ (TX1 b).2.1 := by decide +kernel
theorem tyX1_ok : ∀ k, k < 13 → parseFieldDescriptor (TX1 k).2.2.1 = some (tyX1 k) := by decide +kernel
abbrev cX1_init : ByteArray := prog_3_method_1_code
def yX1_init : MethodName := ⟨RX1, "<init>", "()V"⟩
abbrev cX1_prepare : ByteArray := prog_3_method_2_code
def yX1_prepare : MethodName := ⟨RX1, "prepare", "(LRecastStage$Play;LRecastStage$Evening;Z)Z"⟩
abbrev cX1_ableMen : ByteArray := prog_3_method_3_code
def yX1_ableMen : MethodName := ⟨RX1, "ableMen", "(LRecastStage$Play;LRecastStage$Evening;IZ)I"⟩
abbrev cX1_freeMen : ByteArray := prog_3_method_4_code
def yX1_freeMen : MethodName := ⟨RX1, "freeMen", "(II)I"⟩
abbrev cX1_findBest : ByteArray := prog_3_method_5_code
def yX1_findBest : MethodName := ⟨RX1, "findBest", "(LRecastStage$Play;LRecastStage$Evening;)Z"⟩
abbrev cX1_joyOfBest : ByteArray := prog_3_method_6_code
def yX1_joyOfBest : MethodName := ⟨RX1, "joyOfBest", "()I"⟩
abbrev cX1_castInto : ByteArray := prog_3_method_7_code
def yX1_castInto : MethodName := ⟨RX1, "castInto", "([I)V"⟩
abbrev cX1_leastLoss : ByteArray := prog_3_method_8_code
def yX1_leastLoss : MethodName := ⟨RX1, "leastLoss", "(LRecastStage$Play;LRecastStage$Evening;)I"⟩
abbrev cX1_fewestWhispers : ByteArray := prog_3_method_9_code
def yX1_fewestWhispers : MethodName := ⟨RX1, "fewestWhispers", "(LRecastStage$Play;LRecastStage$Evening;)I"⟩
abbrev cX1_findCheapest : ByteArray := prog_3_method_10_code
def yX1_findCheapest : MethodName := ⟨RX1, "findCheapest", "()Z"⟩
abbrev cX1_cheapestAt : ByteArray := prog_3_method_11_code
def yX1_cheapestAt : MethodName := ⟨RX1, "cheapestAt", "(I)I"⟩
abbrev cX1_seekCheapest : ByteArray := prog_3_method_12_code
def yX1_seekCheapest : MethodName := ⟨RX1, "seekCheapest", "(III)V"⟩
abbrev cX1_countBy : ByteArray := prog_3_method_13_code
def yX1_countBy : MethodName := ⟨RX1, "countBy", "(LRecastStage$Play;LRecastStage$Evening;I)I"⟩
abbrev cX1_seekAll : ByteArray := prog_3_method_14_code
def yX1_seekAll : MethodName := ⟨RX1, "seekAll", "(II)V"⟩
abbrev cX1_addLast : ByteArray := prog_3_method_15_code
def yX1_addLast : MethodName := ⟨RX1, "addLast", "(II)V"⟩
abbrev cX1_shortSet : ByteArray := prog_3_method_16_code
def yX1_shortSet : MethodName := ⟨RX1, "shortSet", "(LRecastStage$Play;LRecastStage$Evening;)I"⟩
abbrev cX1_ableForAny : ByteArray := prog_3_method_17_code
def yX1_ableForAny : MethodName := ⟨RX1, "ableForAny", "(I)I"⟩
abbrev cX1_partsAt : ByteArray := prog_3_method_18_code
def yX1_partsAt : MethodName := ⟨RX1, "partsAt", "(I)I"⟩
def RX2 : String := "RecastStage$Evening"
def TX2 : u_T := fun k => match k with
  | 0 => ("RecastStage$Evening", "next", "I", false)
  | 1 => ("RecastStage$Evening", "joySoFar", "I", false)
  | 2 => ("RecastStage$Evening", "lossSoFar", "I", false)
  | 3 => ("RecastStage$Evening", "whispered", "I", false)
  | 4 => ("RecastStage$Evening", "money", "I", false)
  | 5 => ("RecastStage$Evening", "clapsSoFar", "I", false)
  | 6 => ("RecastStage$Evening", "ahead", "I", false)
  | 7 => ("RecastStage$Evening", "ill", "I", false)
  | 8 => ("RecastStage$Evening", "manAs", "[I", true)
  | 9 => ("RecastStage$Evening", "lastAs", "[I", true)
  | 10 => ("RecastStage$Evening", "known", "[I", true)
  | 11 => ("RecastStage$Evening", "times", "[I", true)
  | _ => ("RecastStage$Evening", "clapsFor", "[I", true)
def tyX2 : Nat → FieldType := fun k => match k with
  | 0 => .int
  | 1 => .int
  | 2 => .int
  | 3 => .int
  | 4 => .int
  | 5 => .int
  | 6 => .int
  | 7 => .int
  | 8 => .array .int
  | 9 => .array .int
  | 10 => .array .int
  | 11 => .array .int
  | _ => .array .int
abbrev wsX20 : List Cond := u_ws RX2 TX2 13
theorem nmX2 : ∀ a, a < 13 → ∀ b, b < 13 → a ≠ b → (TX2 a).2.1 ≠ (TX2 b).2.1 := by decide +kernel
theorem tyX2_ok : ∀ k, k < 13 → parseFieldDescriptor (TX2 k).2.2.1 = some (tyX2 k) := by decide +kernel
abbrev cX2_init : ByteArray := prog_4_method_1_code
def yX2_init : MethodName := ⟨RX2, "<init>", "()V"⟩
abbrev cX2_begin : ByteArray := prog_4_method_2_code
def yX2_begin : MethodName := ⟨RX2, "begin", "()V"⟩
abbrev cX2_copyFrom : ByteArray := prog_4_method_3_code
def yX2_copyFrom : MethodName := ⟨RX2, "copyFrom", "(LRecastStage$Evening;)V"⟩
abbrev cX2_sendOff : ByteArray := prog_4_method_4_code
def yX2_sendOff : MethodName := ⟨RX2, "sendOff", "()V"⟩
abbrev cX2_isOver : ByteArray := prog_4_method_5_code
def yX2_isOver : MethodName := ⟨RX2, "isOver", "(LRecastStage$Play;)Z"⟩
abbrev cX2_menOn : ByteArray := prog_4_method_6_code
def yX2_menOn : MethodName := ⟨RX2, "menOn", "()I"⟩
abbrev cX2_partOf : ByteArray := prog_4_method_7_code
def yX2_partOf : MethodName := ⟨RX2, "partOf", "(I)I"⟩
abbrev cX2_whyNot : ByteArray := prog_4_method_8_code
def yX2_whyNot : MethodName := ⟨RX2, "whyNot", "(LRecastStage$Play;II)I"⟩
abbrev cX2_castUnlessWhy : ByteArray := prog_4_method_9_code
def yX2_castUnlessWhy : MethodName := ⟨RX2, "castUnlessWhy", "(LRecastStage$Play;II)I"⟩
abbrev cX2_whyUnfit : ByteArray := prog_4_method_10_code
def yX2_whyUnfit : MethodName := ⟨RX2, "whyUnfit", "(LRecastStage$Play;II)I"⟩
abbrev cX2_unknownTo : ByteArray := prog_4_method_11_code
def yX2_unknownTo : MethodName := ⟨RX2, "unknownTo", "(LRecastStage$Play;II)I"⟩
abbrev cX2_meetsFoe : ByteArray := prog_4_method_12_code
def yX2_meetsFoe : MethodName := ⟨RX2, "meetsFoe", "(LRecastStage$Play;II)Z"⟩
abbrev cX2_canTell : ByteArray := prog_4_method_13_code
def yX2_canTell : MethodName := ⟨RX2, "canTell", "(LRecastStage$Play;II)Z"⟩
abbrev cX2_tell : ByteArray := prog_4_method_14_code
def yX2_tell : MethodName := ⟨RX2, "tell", "(II)V"⟩
abbrev cX2_sureMen : ByteArray := prog_4_method_15_code
def yX2_sureMen : MethodName := ⟨RX2, "sureMen", "(LRecastStage$Play;)I"⟩
abbrev cX2_canEndAct : ByteArray := prog_4_method_16_code
def yX2_canEndAct : MethodName := ⟨RX2, "canEndAct", "(LRecastStage$Play;)Z"⟩
abbrev cX2_endAct : ByteArray := prog_4_method_17_code
def yX2_endAct : MethodName := ⟨RX2, "endAct", "(LRecastStage$Play;)V"⟩
abbrev cX2_lossBy : ByteArray := prog_4_method_18_code
def yX2_lossBy : MethodName := ⟨RX2, "lossBy", "(LRecastStage$Play;II)I"⟩
abbrev cX2_clap : ByteArray := prog_4_method_19_code
def yX2_clap : MethodName := ⟨RX2, "clap", "(LRecastStage$Play;I)V"⟩
abbrev cX2_learn : ByteArray := prog_4_method_20_code
def yX2_learn : MethodName := ⟨RX2, "learn", "(LRecastStage$Play;I)V"⟩
def RX3 : String := "RecastStage$History"
def TX3 : u_T := fun k => match k with
  | 0 => ("RecastStage$History", "evenings", "[LRecastStage$Evening;", true)
  | 1 => ("RecastStage$History", "oldest", "I", false)
  | _ => ("RecastStage$History", "kept", "I", false)
def tyX3 : Nat → FieldType := fun k => match k with
  | 0 => .array (.object "RecastStage$Evening")
  | 1 => .int
  | _ => .int
abbrev wsX30 : List Cond := u_ws RX3 TX3 3
theorem nmX3 : ∀ a, a < 3 → ∀ b, b < 3 → a ≠ b → (TX3 a).2.1 ≠ (TX3 b).2.1 := by decide +kernel
theorem tyX3_ok : ∀ k, k < 3 → parseFieldDescriptor (TX3 k).2.2.1 = some (tyX3 k) := by decide +kernel
abbrev cX3_init : ByteArray := prog_5_method_1_code
def yX3_init : MethodName := ⟨RX3, "<init>", "()V"⟩
abbrev cX3_forget : ByteArray := prog_5_method_2_code
def yX3_forget : MethodName := ⟨RX3, "forget", "()V"⟩
abbrev cX3_keep : ByteArray := prog_5_method_3_code
def yX3_keep : MethodName := ⟨RX3, "keep", "(LRecastStage$Evening;)V"⟩
abbrev cX3_takeBack : ByteArray := prog_5_method_4_code
def yX3_takeBack : MethodName := ⟨RX3, "takeBack", "(LRecastStage$Evening;)Z"⟩
def RX4 : String := "RecastStage$Image"
def TX4 : u_T := fun k => match k with
  | 0 => ("RecastStage$Image", "filled", "Z", false)
  | 1 => ("RecastStage$Image", "play", "LRecastStage$Play;", true)
  | 2 => ("RecastStage$Image", "evening", "LRecastStage$Evening;", true)
  | _ => ("RecastStage$Image", "sentence", "LRecastStage$Sentence;", true)
def tyX4 : Nat → FieldType := fun k => match k with
  | 0 => .boolean
  | 1 => .object "RecastStage$Play"
  | 2 => .object "RecastStage$Evening"
  | _ => .object "RecastStage$Sentence"
abbrev wsX40 : List Cond := u_ws RX4 TX4 4
theorem nmX4 : ∀ a, a < 4 → ∀ b, b < 4 → a ≠ b → (TX4 a).2.1 ≠ (TX4 b).2.1 := by decide +kernel
theorem tyX4_ok : ∀ k, k < 4 → parseFieldDescriptor (TX4 k).2.2.1 = some (tyX4 k) := by decide +kernel
abbrev cX4_init : ByteArray := prog_6_method_1_code
def yX4_init : MethodName := ⟨RX4, "<init>", "()V"⟩
def RX5 : String := "RecastStage$Market"
def TX5 : u_T := fun k => match k with
  | 0 => ("RecastStage$Market", "told", "Z", false)
  | 1 => ("RecastStage$Market", "priceOf", "[I", true)
  | _ => ("RecastStage$Market", "wantedBy", "[I", true)
def tyX5 : Nat → FieldType := fun k => match k with
  | 0 => .boolean
  | 1 => .array .int
  | _ => .array .int
abbrev wsX50 : List Cond := u_ws RX5 TX5 3
theorem nmX5 : ∀ a, a < 3 → ∀ b, b < 3 → a ≠ b → (TX5 a).2.1 ≠ (TX5 b).2.1 := by decide +kernel
theorem tyX5_ok : ∀ k, k < 3 → parseFieldDescriptor (TX5 k).2.2.1 = some (tyX5 k) := by decide +kernel
abbrev cX5_init : ByteArray := prog_7_method_1_code
def yX5_init : MethodName := ⟨RX5, "<init>", "()V"⟩
abbrev cX5_trade : ByteArray := prog_7_method_2_code
def yX5_trade : MethodName := ⟨RX5, "trade", "(LRecastStage$Play;LRecastStage$Evening;LRecastStage$Casting;)I"⟩
abbrev cX5_wishOf : ByteArray := prog_7_method_3_code
def yX5_wishOf : MethodName := ⟨RX5, "wishOf", "(ILRecastStage$Play;LRecastStage$Casting;)I"⟩
abbrev cX5_raise : ByteArray := prog_7_method_4_code
def yX5_raise : MethodName := ⟨RX5, "raise", "(LRecastStage$Play;)Z"⟩
def RX6 : String := "RecastStage$Play"
def TX6 : u_T := fun k => match k with
  | 0 => ("RecastStage$Play", "parts", "I", false)
  | 1 => ("RecastStage$Play", "facts", "I", false)
  | 2 => ("RecastStage$Play", "men", "I", false)
  | 3 => ("RecastStage$Play", "acts", "I", false)
  | 4 => ("RecastStage$Play", "scenes", "I", false)
  | 5 => ("RecastStage$Play", "rest", "Z", false)
  | 6 => ("RecastStage$Play", "partNames", "[J", true)
  | 7 => ("RecastStage$Play", "factNames", "[J", true)
  | 8 => ("RecastStage$Play", "manNames", "[J", true)
  | 9 => ("RecastStage$Play", "partSkill", "[I", true)
  | 10 => ("RecastStage$Play", "partNeeds", "[I", true)
  | 11 => ("RecastStage$Play", "factClears", "[I", true)
  | 12 => ("RecastStage$Play", "manSkill", "[I", true)
  | 13 => ("RecastStage$Play", "manSeat", "[I", true)
  | 14 => ("RecastStage$Play", "manNever", "[I", true)
  | 15 => ("RecastStage$Play", "manFoes", "[I", true)
  | 16 => ("RecastStage$Play", "likes", "[I", true)
  | 17 => ("RecastStage$Play", "sceneAct", "[I", true)
  | 18 => ("RecastStage$Play", "sceneParts", "[I", true)
  | _ => ("RecastStage$Play", "sceneFacts", "[I", true)
def tyX6 : Nat → FieldType := fun k => match k with
  | 0 => .int
  | 1 => .int
  | 2 => .int
  | 3 => .int
  | 4 => .int
  | 5 => .boolean
  | 6 => .array .long
  | 7 => .array .long
  | 8 => .array .long
  | 9 => .array .int
  | 10 => .array .int
  | 11 => .array .int
  | 12 => .array .int
  | 13 => .array .int
  | 14 => .array .int
  | 15 => .array .int
  | 16 => .array .int
  | 17 => .array .int
  | 18 => .array .int
  | _ => .array .int
abbrev wsX60 : List Cond := u_ws RX6 TX6 20
theorem nmX6 : ∀ a, a < 20 → ∀ b, b < 20 → a ≠ b → (TX6 a).2.1 ≠ (TX6 b).2.1 := by decide +kernel
theorem tyX6_ok : ∀ k, k < 20 → parseFieldDescriptor (TX6 k).2.2.1 = some (tyX6 k) := by decide +kernel
abbrev cX6_init : ByteArray := prog_8_method_1_code
def yX6_init : MethodName := ⟨RX6, "<init>", "()V"⟩
abbrev cX6_clear : ByteArray := prog_8_method_2_code
def yX6_clear : MethodName := ⟨RX6, "clear", "()V"⟩
abbrev cX6_copyFrom : ByteArray := prog_8_method_3_code
def yX6_copyFrom : MethodName := ⟨RX6, "copyFrom", "(LRecastStage$Play;)V"⟩
abbrev cX6_hasPart : ByteArray := prog_8_method_4_code
def yX6_hasPart : MethodName := ⟨RX6, "hasPart", "(I)Z"⟩
abbrev cX6_hasFact : ByteArray := prog_8_method_5_code
def yX6_hasFact : MethodName := ⟨RX6, "hasFact", "(I)Z"⟩
abbrev cX6_hasMan : ByteArray := prog_8_method_6_code
def yX6_hasMan : MethodName := ⟨RX6, "hasMan", "(I)Z"⟩
abbrev cX6_hasName : ByteArray := prog_8_method_7_code
def yX6_hasName : MethodName := ⟨RX6, "hasName", "(J)Z"⟩
abbrev cX6_allMen : ByteArray := prog_8_method_8_code
def yX6_allMen : MethodName := ⟨RX6, "allMen", "()I"⟩
abbrev cX6_liking : ByteArray := prog_8_method_9_code
def yX6_liking : MethodName := ⟨RX6, "liking", "(II)I"⟩
abbrev cX6_scenesOf : ByteArray := prog_8_method_10_code
def yX6_scenesOf : MethodName := ⟨RX6, "scenesOf", "(I)I"⟩
abbrev cX6_partsOf : ByteArray := prog_8_method_11_code
def yX6_partsOf : MethodName := ⟨RX6, "partsOf", "(I)I"⟩
abbrev cX6_factsOf : ByteArray := prog_8_method_12_code
def yX6_factsOf : MethodName := ⟨RX6, "factsOf", "(I)I"⟩
abbrev cX6_actsWith : ByteArray := prog_8_method_13_code
def yX6_actsWith : MethodName := ⟨RX6, "actsWith", "(I)I"⟩
abbrev cX6_partsBeside : ByteArray := prog_8_method_14_code
def yX6_partsBeside : MethodName := ⟨RX6, "partsBeside", "(II)I"⟩
abbrev cX6_suspectsWith : ByteArray := prog_8_method_15_code
def yX6_suspectsWith : MethodName := ⟨RX6, "suspectsWith", "(I)I"⟩
abbrev cX6_isSureWith : ByteArray := prog_8_method_16_code
def yX6_isSureWith : MethodName := ⟨RX6, "isSureWith", "(I)Z"⟩
def RX7 : String := "RecastStage$PlayReader"
def TX7 : u_T := fun k => match k with
  | _ => ("RecastStage$PlayReader", "told", "LRecastStage$Play;", true)
def tyX7 : Nat → FieldType := fun k => match k with
  | _ => .object "RecastStage$Play"
abbrev wsX70 : List Cond := u_ws RX7 TX7 1
theorem nmX7 : ∀ a, a < 1 → ∀ b, b < 1 → a ≠ b → (TX7 a).2.1 ≠ (TX7 b).2.1 := by decide +kernel
theorem tyX7_ok : ∀ k, k < 1 → parseFieldDescriptor (TX7 k).2.2.1 = some (tyX7 k) := by decide +kernel
abbrev cX7_init : ByteArray := prog_9_method_1_code
def yX7_init : MethodName := ⟨RX7, "<init>", "()V"⟩
abbrev cX7_read : ByteArray := prog_9_method_2_code
def yX7_read : MethodName := ⟨RX7, "read", "(LRecastStage$Reader;)I"⟩
abbrev cX7_readLine : ByteArray := prog_9_method_3_code
def yX7_readLine : MethodName := ⟨RX7, "readLine", "(LRecastStage$Reader;)V"⟩
abbrev cX7_takeOneOf : ByteArray := prog_9_method_4_code
def yX7_takeOneOf : MethodName := ⟨RX7, "takeOneOf", "(LRecastStage$Reader;II)Z"⟩
abbrev cX7_takeNewName : ByteArray := prog_9_method_5_code
def yX7_takeNewName : MethodName := ⟨RX7, "takeNewName", "(LRecastStage$Reader;[JI)Z"⟩
abbrev cX7_takeOnce : ByteArray := prog_9_method_6_code
def yX7_takeOnce : MethodName := ⟨RX7, "takeOnce", "(LRecastStage$Reader;II)I"⟩
abbrev cX7_readPart : ByteArray := prog_9_method_7_code
def yX7_readPart : MethodName := ⟨RX7, "readPart", "(LRecastStage$Reader;)V"⟩
abbrev cX7_readFact : ByteArray := prog_9_method_8_code
def yX7_readFact : MethodName := ⟨RX7, "readFact", "(LRecastStage$Reader;)V"⟩
abbrev cX7_readClears : ByteArray := prog_9_method_9_code
def yX7_readClears : MethodName := ⟨RX7, "readClears", "(LRecastStage$Reader;)V"⟩
abbrev cX7_readMan : ByteArray := prog_9_method_10_code
def yX7_readMan : MethodName := ⟨RX7, "readMan", "(LRecastStage$Reader;)V"⟩
abbrev cX7_readAct : ByteArray := prog_9_method_11_code
def yX7_readAct : MethodName := ⟨RX7, "readAct", "(LRecastStage$Reader;)V"⟩
abbrev cX7_readScene : ByteArray := prog_9_method_12_code
def yX7_readScene : MethodName := ⟨RX7, "readScene", "(LRecastStage$Reader;)V"⟩
abbrev cX7_readShows : ByteArray := prog_9_method_13_code
def yX7_readShows : MethodName := ⟨RX7, "readShows", "(LRecastStage$Reader;)V"⟩
abbrev cX7_readNeeds : ByteArray := prog_9_method_14_code
def yX7_readNeeds : MethodName := ⟨RX7, "readNeeds", "(LRecastStage$Reader;)V"⟩
abbrev cX7_readLikes : ByteArray := prog_9_method_15_code
def yX7_readLikes : MethodName := ⟨RX7, "readLikes", "(LRecastStage$Reader;)V"⟩
abbrev cX7_readNever : ByteArray := prog_9_method_16_code
def yX7_readNever : MethodName := ⟨RX7, "readNever", "(LRecastStage$Reader;)V"⟩
abbrev cX7_readFoes : ByteArray := prog_9_method_17_code
def yX7_readFoes : MethodName := ⟨RX7, "readFoes", "(LRecastStage$Reader;)V"⟩
abbrev cX7_readRest : ByteArray := prog_9_method_18_code
def yX7_readRest : MethodName := ⟨RX7, "readRest", "(LRecastStage$Reader;)V"⟩
def RX8 : String := "RecastStage$Reader"
def TX8 : u_T := fun k => match k with
  | 0 => ("RecastStage$Reader", "reserved", "[J", true)
  | 1 => ("RecastStage$Reader", "tape", "LRecastStage$Tape;", true)
  | 2 => ("RecastStage$Reader", "most", "I", false)
  | 3 => ("RecastStage$Reader", "behind", "I", false)
  | 4 => ("RecastStage$Reader", "kind", "I", false)
  | 5 => ("RecastStage$Reader", "place", "I", false)
  | 6 => ("RecastStage$Reader", "value", "I", false)
  | 7 => ("RecastStage$Reader", "word", "I", false)
  | 8 => ("RecastStage$Reader", "name", "J", false)
  | 9 => ("RecastStage$Reader", "fault", "I", false)
  | _ => ("RecastStage$Reader", "faultPlace", "I", false)
def tyX8 : Nat → FieldType := fun k => match k with
  | 0 => .array .long
  | 1 => .object "RecastStage$Tape"
  | 2 => .int
  | 3 => .int
  | 4 => .int
  | 5 => .int
  | 6 => .int
  | 7 => .int
  | 8 => .long
  | 9 => .int
  | _ => .int
abbrev wsX80 : List Cond := u_ws RX8 TX8 11
theorem nmX8 : ∀ a, a < 11 → ∀ b, b < 11 → a ≠ b → (TX8 a).2.1 ≠ (TX8 b).2.1 := by decide +kernel
theorem tyX8_ok : ∀ k, k < 11 → parseFieldDescriptor (TX8 k).2.2.1 = some (tyX8 k) := by decide +kernel
abbrev cX8_init : ByteArray := prog_10_method_1_code
def yX8_init : MethodName := ⟨RX8, "<init>", "()V"⟩
abbrev cX8_namesOf : ByteArray := prog_10_method_2_code
def yX8_namesOf : MethodName := ⟨RX8, "namesOf", "(Ljava/lang/String;)[J"⟩
abbrev cX8_withLetter : ByteArray := prog_10_method_3_code
def yX8_withLetter : MethodName := ⟨RX8, "withLetter", "(JI)J"⟩
abbrev cX8_open : ByteArray := prog_10_method_4_code
def yX8_open : MethodName := ⟨RX8, "open", "(I)V"⟩
abbrev cX8_step : ByteArray := prog_10_method_5_code
def yX8_step : MethodName := ⟨RX8, "step", "()V"⟩
abbrev cX8_readRun : ByteArray := prog_10_method_6_code
def yX8_readRun : MethodName := ⟨RX8, "readRun", "()V"⟩
abbrev cX8_indexOf : ByteArray := prog_10_method_7_code
def yX8_indexOf : MethodName := ⟨RX8, "indexOf", "([JIJ)I"⟩
abbrev cX8_isBlank : ByteArray := prog_10_method_8_code
def yX8_isBlank : MethodName := ⟨RX8, "isBlank", "(I)Z"⟩
abbrev cX8_isLetter : ByteArray := prog_10_method_9_code
def yX8_isLetter : MethodName := ⟨RX8, "isLetter", "(I)Z"⟩
abbrev cX8_isDigit : ByteArray := prog_10_method_10_code
def yX8_isDigit : MethodName := ⟨RX8, "isDigit", "(I)Z"⟩
abbrev cX8_isSign : ByteArray := prog_10_method_11_code
def yX8_isSign : MethodName := ⟨RX8, "isSign", "(I)Z"⟩
abbrev cX8_isFine : ByteArray := prog_10_method_12_code
def yX8_isFine : MethodName := ⟨RX8, "isFine", "()Z"⟩
abbrev cX8_fail : ByteArray := prog_10_method_13_code
def yX8_fail : MethodName := ⟨RX8, "fail", "(I)V"⟩
abbrev cX8_isAtName : ByteArray := prog_10_method_14_code
def yX8_isAtName : MethodName := ⟨RX8, "isAtName", "()Z"⟩
abbrev cX8_isAtWord : ByteArray := prog_10_method_15_code
def yX8_isAtWord : MethodName := ⟨RX8, "isAtWord", "(I)Z"⟩
abbrev cX8_isAtSign : ByteArray := prog_10_method_16_code
def yX8_isAtSign : MethodName := ⟨RX8, "isAtSign", "(I)Z"⟩
abbrev cX8_wordHere : ByteArray := prog_10_method_17_code
def yX8_wordHere : MethodName := ⟨RX8, "wordHere", "()I"⟩
abbrev cX8_nameHere : ByteArray := prog_10_method_18_code
def yX8_nameHere : MethodName := ⟨RX8, "nameHere", "([JI)I"⟩
abbrev cX8_takeName : ByteArray := prog_10_method_19_code
def yX8_takeName : MethodName := ⟨RX8, "takeName", "([JI)I"⟩
abbrev cX8_takeSign : ByteArray := prog_10_method_20_code
def yX8_takeSign : MethodName := ⟨RX8, "takeSign", "(I)V"⟩
abbrev cX8_takeWord : ByteArray := prog_10_method_21_code
def yX8_takeWord : MethodName := ⟨RX8, "takeWord", "(I)V"⟩
abbrev cX8_takeNumber : ByteArray := prog_10_method_22_code
def yX8_takeNumber : MethodName := ⟨RX8, "takeNumber", "(II)I"⟩
def RX9 : String := "RecastStage$Sentence"
def TX9 : u_T := fun k => match k with
  | 0 => ("RecastStage$Sentence", "ones", "I", false)
  | 1 => ("RecastStage$Sentence", "steps", "I", false)
  | 2 => ("RecastStage$Sentence", "kinds", "[I", true)
  | 3 => ("RecastStage$Sentence", "signs", "[I", true)
  | 4 => ("RecastStage$Sentence", "numbers", "[I", true)
  | _ => ("RecastStage$Sentence", "sets", "[I", true)
def tyX9 : Nat → FieldType := fun k => match k with
  | 0 => .int
  | 1 => .int
  | 2 => .array .int
  | 3 => .array .int
  | 4 => .array .int
  | _ => .array .int
abbrev wsX90 : List Cond := u_ws RX9 TX9 6
theorem nmX9 : ∀ a, a < 6 → ∀ b, b < 6 → a ≠ b → (TX9 a).2.1 ≠ (TX9 b).2.1 := by decide +kernel
theorem tyX9_ok : ∀ k, k < 6 → parseFieldDescriptor (TX9 k).2.2.1 = some (tyX9 k) := by decide +kernel
abbrev cX9_init : ByteArray := prog_11_method_1_code
def yX9_init : MethodName := ⟨RX9, "<init>", "()V"⟩
abbrev cX9_clear : ByteArray := prog_11_method_2_code
def yX9_clear : MethodName := ⟨RX9, "clear", "()V"⟩
abbrev cX9_copyFrom : ByteArray := prog_11_method_3_code
def yX9_copyFrom : MethodName := ⟨RX9, "copyFrom", "(LRecastStage$Sentence;)V"⟩
abbrev cX9_read : ByteArray := prog_11_method_4_code
def yX9_read : MethodName := ⟨RX9, "read", "(LRecastStage$Reader;LRecastStage$Play;)V"⟩
abbrev cX9_readCond : ByteArray := prog_11_method_5_code
def yX9_readCond : MethodName := ⟨RX9, "readCond", "(LRecastStage$Reader;LRecastStage$Play;I)V"⟩
abbrev cX9_readAll : ByteArray := prog_11_method_6_code
def yX9_readAll : MethodName := ⟨RX9, "readAll", "(LRecastStage$Reader;LRecastStage$Play;I)V"⟩
abbrev cX9_readOne : ByteArray := prog_11_method_7_code
def yX9_readOne : MethodName := ⟨RX9, "readOne", "(LRecastStage$Reader;LRecastStage$Play;I)V"⟩
abbrev cX9_readPlainOne : ByteArray := prog_11_method_8_code
def yX9_readPlainOne : MethodName := ⟨RX9, "readPlainOne", "(LRecastStage$Reader;LRecastStage$Play;I)V"⟩
abbrev cX9_addStep : ByteArray := prog_11_method_9_code
def yX9_addStep : MethodName := ⟨RX9, "addStep", "(III)V"⟩
abbrev cX9_menOf : ByteArray := prog_11_method_10_code
def yX9_menOf : MethodName := ⟨RX9, "menOf", "(LRecastStage$Play;LRecastStage$Evening;)I"⟩
abbrev cX9_menOfOne : ByteArray := prog_11_method_11_code
def yX9_menOfOne : MethodName := ⟨RX9, "menOfOne", "(ILRecastStage$Play;LRecastStage$Evening;)I"⟩
abbrev cX9_holdsFor : ByteArray := prog_11_method_12_code
def yX9_holdsFor : MethodName := ⟨RX9, "holdsFor", "(IILRecastStage$Play;LRecastStage$Evening;)Z"⟩
abbrev cX9_compares : ByteArray := prog_11_method_13_code
def yX9_compares : MethodName := ⟨RX9, "compares", "(II)Z"⟩
def RX10 : String := "RecastStage$Tape"
def TX10 : u_T := fun k => match k with
  | 0 => ("RecastStage$Tape", "bytes", "[B", true)
  | _ => ("RecastStage$Tape", "length", "I", false)
def tyX10 : Nat → FieldType := fun k => match k with
  | 0 => .array .byte
  | _ => .int
abbrev wsX100 : List Cond := u_ws RX10 TX10 2
theorem nmX10 : ∀ a, a < 2 → ∀ b, b < 2 → a ≠ b → (TX10 a).2.1 ≠ (TX10 b).2.1 := by decide +kernel
theorem tyX10_ok : ∀ k, k < 2 → parseFieldDescriptor (TX10 k).2.2.1 = some (tyX10 k) := by decide +kernel
abbrev cX10_init : ByteArray := prog_12_method_1_code
def yX10_init : MethodName := ⟨RX10, "<init>", "()V"⟩
abbrev cX10_hasRoom : ByteArray := prog_12_method_2_code
def yX10_hasRoom : MethodName := ⟨RX10, "hasRoom", "(I)Z"⟩
abbrev cX10_append : ByteArray := prog_12_method_3_code
def yX10_append : MethodName := ⟨RX10, "append", "(I)V"⟩
abbrev cX10_byteAt : ByteArray := prog_12_method_4_code
def yX10_byteAt : MethodName := ⟨RX10, "byteAt", "(I)I"⟩
def RX11 : String := "RecastStage"
def TX11 : u_T := fun k => match k with
  | 0 => ("RecastStage", "reader", "LRecastStage$Reader;", true)
  | 1 => ("RecastStage", "playReader", "LRecastStage$PlayReader;", true)
  | 2 => ("RecastStage", "play", "LRecastStage$Play;", true)
  | 3 => ("RecastStage", "evening", "LRecastStage$Evening;", true)
  | 4 => ("RecastStage", "trial", "LRecastStage$Evening;", true)
  | 5 => ("RecastStage", "history", "LRecastStage$History;", true)
  | 6 => ("RecastStage", "sentence", "LRecastStage$Sentence;", true)
  | 7 => ("RecastStage", "newSentence", "LRecastStage$Sentence;", true)
  | 8 => ("RecastStage", "casting", "LRecastStage$Casting;", true)
  | 9 => ("RecastStage", "market", "LRecastStage$Market;", true)
  | 10 => ("RecastStage", "book", "LRecastStage$Book;", true)
  | 11 => ("RecastStage", "images", "[LRecastStage$Image;", true)
  | 12 => ("RecastStage", "bestMen", "[I", true)
  | _ => ("RecastStage", "latestFault", "I", false)
def tyX11 : Nat → FieldType := fun k => match k with
  | 0 => .object "RecastStage$Reader"
  | 1 => .object "RecastStage$PlayReader"
  | 2 => .object "RecastStage$Play"
  | 3 => .object "RecastStage$Evening"
  | 4 => .object "RecastStage$Evening"
  | 5 => .object "RecastStage$History"
  | 6 => .object "RecastStage$Sentence"
  | 7 => .object "RecastStage$Sentence"
  | 8 => .object "RecastStage$Casting"
  | 9 => .object "RecastStage$Market"
  | 10 => .object "RecastStage$Book"
  | 11 => .array (.object "RecastStage$Image")
  | 12 => .array .int
  | _ => .int
abbrev wsX110 : List Cond := u_ws RX11 TX11 14
theorem nmX11 : ∀ a, a < 14 → ∀ b, b < 14 → a ≠ b → (TX11 a).2.1 ≠ (TX11 b).2.1 := by decide +kernel
theorem tyX11_ok : ∀ k, k < 14 → parseFieldDescriptor (TX11 k).2.2.1 = some (tyX11 k) := by decide +kernel
abbrev cX11_init : ByteArray := prog_1_method_1_code
def yX11_init : MethodName := ⟨RX11, "<init>", "()V"⟩
abbrev cX11_feed : ByteArray := prog_1_method_2_code
def yX11_feed : MethodName := ⟨RX11, "feed", "(IIIII)I"⟩
abbrev cX11_end : ByteArray := prog_1_method_3_code
def yX11_end : MethodName := ⟨RX11, "end", "(I)Z"⟩
abbrev cX11_play : ByteArray := prog_1_method_4_code
def yX11_play : MethodName := ⟨RX11, "play", "()I"⟩
abbrev cX11_fault : ByteArray := prog_1_method_5_code
def yX11_fault : MethodName := ⟨RX11, "fault", "()I"⟩
abbrev cX11_part : ByteArray := prog_1_method_6_code
def yX11_part : MethodName := ⟨RX11, "part", "(II)I"⟩
abbrev cX11_man : ByteArray := prog_1_method_7_code
def yX11_man : MethodName := ⟨RX11, "man", "(II)I"⟩
abbrev cX11_act : ByteArray := prog_1_method_8_code
def yX11_act : MethodName := ⟨RX11, "act", "(II)I"⟩
abbrev cX11_scene : ByteArray := prog_1_method_9_code
def yX11_scene : MethodName := ⟨RX11, "scene", "(II)I"⟩
abbrev cX11_now : ByteArray := prog_1_method_10_code
def yX11_now : MethodName := ⟨RX11, "now", "(I)I"⟩
abbrev cX11_why : ByteArray := prog_1_method_11_code
def yX11_why : MethodName := ⟨RX11, "why", "(II)I"⟩
abbrev cX11_cast : ByteArray := prog_1_method_12_code
def yX11_cast : MethodName := ⟨RX11, "cast", "(II)I"⟩
abbrev cX11_drop : ByteArray := prog_1_method_13_code
def yX11_drop : MethodName := ⟨RX11, "drop", "(I)I"⟩
abbrev cX11_curtain : ByteArray := prog_1_method_14_code
def yX11_curtain : MethodName := ⟨RX11, "curtain", "()I"⟩
abbrev cX11_whisper : ByteArray := prog_1_method_15_code
def yX11_whisper : MethodName := ⟨RX11, "whisper", "(II)Z"⟩
abbrev cX11_undo : ByteArray := prog_1_method_16_code
def yX11_undo : MethodName := ⟨RX11, "undo", "()I"⟩
abbrev cX11_best : ByteArray := prog_1_method_17_code
def yX11_best : MethodName := ⟨RX11, "best", "()I"⟩
abbrev cX11_bestAs : ByteArray := prog_1_method_18_code
def yX11_bestAs : MethodName := ⟨RX11, "bestAs", "(I)I"⟩
abbrev cX11_casts : ByteArray := prog_1_method_19_code
def yX11_casts : MethodName := ⟨RX11, "casts", "()I"⟩
abbrev cX11_bowed : ByteArray := prog_1_method_20_code
def yX11_bowed : MethodName := ⟨RX11, "bowed", "(I)I"⟩
abbrev cX11_surely : ByteArray := prog_1_method_21_code
def yX11_surely : MethodName := ⟨RX11, "surely", "()I"⟩
abbrev cX11_lacks : ByteArray := prog_1_method_22_code
def yX11_lacks : MethodName := ⟨RX11, "lacks", "()I"⟩
abbrev cX11_least : ByteArray := prog_1_method_23_code
def yX11_least : MethodName := ⟨RX11, "least", "()I"⟩
abbrev cX11_whispers : ByteArray := prog_1_method_24_code
def yX11_whispers : MethodName := ⟨RX11, "whispers", "()I"⟩
abbrev cX11_suspects : ByteArray := prog_1_method_25_code
def yX11_suspects : MethodName := ⟨RX11, "suspects", "(I)I"⟩
abbrev cX11_sure : ByteArray := prog_1_method_26_code
def yX11_sure : MethodName := ⟨RX11, "sure", "()I"⟩
abbrev cX11_tells : ByteArray := prog_1_method_27_code
def yX11_tells : MethodName := ⟨RX11, "tells", "(I)I"⟩
abbrev cX11_prices : ByteArray := prog_1_method_28_code
def yX11_prices : MethodName := ⟨RX11, "prices", "()I"⟩
abbrev cX11_price : ByteArray := prog_1_method_29_code
def yX11_price : MethodName := ⟨RX11, "price", "(I)I"⟩
abbrev cX11_wants : ByteArray := prog_1_method_30_code
def yX11_wants : MethodName := ⟨RX11, "wants", "(I)I"⟩
abbrev cX11_goesOn : ByteArray := prog_1_method_31_code
def yX11_goesOn : MethodName := ⟨RX11, "goesOn", "()I"⟩
abbrev cX11_joy : ByteArray := prog_1_method_32_code
def yX11_joy : MethodName := ⟨RX11, "joy", "()I"⟩
abbrev cX11_favourite : ByteArray := prog_1_method_33_code
def yX11_favourite : MethodName := ⟨RX11, "favourite", "(I)I"⟩
abbrev cX11_drawn : ByteArray := prog_1_method_34_code
def yX11_drawn : MethodName := ⟨RX11, "drawn", "(I)I"⟩
abbrev cX11_odds : ByteArray := prog_1_method_35_code
def yX11_odds : MethodName := ⟨RX11, "odds", "(II)I"⟩
abbrev cX11_book : ByteArray := prog_1_method_36_code
def yX11_book : MethodName := ⟨RX11, "book", "(I)I"⟩
abbrev cX11_booked : ByteArray := prog_1_method_37_code
def yX11_booked : MethodName := ⟨RX11, "booked", "(I)I"⟩
abbrev cX11_sentence : ByteArray := prog_1_method_38_code
def yX11_sentence : MethodName := ⟨RX11, "sentence", "()I"⟩
abbrev cX11_said : ByteArray := prog_1_method_39_code
def yX11_said : MethodName := ⟨RX11, "said", "(I)I"⟩
abbrev cX11_image : ByteArray := prog_1_method_40_code
def yX11_image : MethodName := ⟨RX11, "image", "(I)Z"⟩
abbrev cX11_restore : ByteArray := prog_1_method_41_code
def yX11_restore : MethodName := ⟨RX11, "restore", "(I)Z"⟩
abbrev cX11_count : ByteArray := prog_1_method_42_code
def yX11_count : MethodName := ⟨RX11, "count", "(I)I"⟩
abbrev cX11_has : ByteArray := prog_1_method_43_code
def yX11_has : MethodName := ⟨RX11, "has", "(II)Z"⟩
abbrev cX11_firstWithMost : ByteArray := prog_1_method_44_code
def yX11_firstWithMost : MethodName := ⟨RX11, "firstWithMost", "([II)I"⟩
abbrev cX11_playBest : ByteArray := prog_1_method_45_code
def yX11_playBest : MethodName := ⟨RX11, "playBest", "(LRecastStage$Evening;)Z"⟩
abbrev cX11_goOnByBest : ByteArray := prog_1_method_46_code
def yX11_goOnByBest : MethodName := ⟨RX11, "goOnByBest", "()V"⟩
abbrev cX11_playDrawn : ByteArray := prog_1_method_47_code
def yX11_playDrawn : MethodName := ⟨RX11, "playDrawn", "(LRecastStage$Evening;I)V"⟩
def RX12 : String := "RecastStageModel"
def TX12 : u_T := fun k => match k with
  | 0 => ("RecastStageModel", "thrown", "I", false)
  | 1 => ("RecastStageModel", "tape", "[B", true)
  | 2 => ("RecastStageModel", "length", "I", false)
  | 3 => ("RecastStageModel", "size", "I", false)
  | 4 => ("RecastStageModel", "p", "I", false)
  | 5 => ("RecastStageModel", "limit", "I", false)
  | 6 => ("RecastStageModel", "s", "[I", true)
  | 7 => ("RecastStageModel", "h", "[I", true)
  | 8 => ("RecastStageModel", "read", "[I", true)
  | 9 => ("RecastStageModel", "names", "[J", true)
  | 10 => ("RecastStageModel", "reserved", "[J", true)
  | 11 => ("RecastStageModel", "token", "I", false)
  | 12 => ("RecastStageModel", "at", "I", false)
  | 13 => ("RecastStageModel", "span", "I", false)
  | 14 => ("RecastStageModel", "number", "I", false)
  | 15 => ("RecastStageModel", "fault", "I", false)
  | 16 => ("RecastStageModel", "faultAt", "I", false)
  | 17 => ("RecastStageModel", "word", "J", false)
  | 18 => ("RecastStageModel", "got", "I", false)
  | 19 => ("RecastStageModel", "lines", "I", false)
  | 20 => ("RecastStageModel", "undone", "[I", true)
  | 21 => ("RecastStageModel", "before", "[I", true)
  | 22 => ("RecastStageModel", "undoMany", "I", false)
  | 23 => ("RecastStageModel", "partAt", "[I", true)
  | 24 => ("RecastStageModel", "manAt", "[I", true)
  | 25 => ("RecastStageModel", "bestMan", "[I", true)
  | 26 => ("RecastStageModel", "castMany", "I", false)
  | 27 => ("RecastStageModel", "bestJoy", "I", false)
  | 28 => ("RecastStageModel", "leastLoss", "I", false)
  | 29 => ("RecastStageModel", "inAll", "I", false)
  | 30 => ("RecastStageModel", "bowedMany", "I", false)
  | 31 => ("RecastStageModel", "fewest", "I", false)
  | 32 => ("RecastStageModel", "bestRow", "[I", true)
  | 33 => ("RecastStageModel", "bestParts", "I", false)
  | 34 => ("RecastStageModel", "price", "[I", true)
  | 35 => ("RecastStageModel", "want", "[I", true)
  | 36 => ("RecastStageModel", "asked", "[I", true)
  | 37 => ("RecastStageModel", "priceParts", "I", false)
  | 38 => ("RecastStageModel", "priceMen", "I", false)
  | 39 => ("RecastStageModel", "joyOn", "I", false)
  | 40 => ("RecastStageModel", "seed", "I", false)
  | 41 => ("RecastStageModel", "told", "I", false)
  | 42 => ("RecastStageModel", "bookedAt", "[I", true)
  | 43 => ("RecastStageModel", "hasBooked", "Z", false)
  | 44 => ("RecastStageModel", "stack", "[I", true)
  | 45 => ("RecastStageModel", "codes", "I", false)
  | 46 => ("RecastStageModel", "ones", "I", false)
  | 47 => ("RecastStageModel", "top", "I", false)
  | 48 => ("RecastStageModel", "deep", "I", false)
  | 49 => ("RecastStageModel", "isWhole", "Z", false)
  | 50 => ("RecastStageModel", "truths", "[Z", true)
  | 51 => ("RecastStageModel", "kept", "[I", true)
  | 52 => ("RecastStageModel", "namesKept", "[J", true)
  | _ => ("RecastStageModel", "areKept", "[Z", true)
def tyX12 : Nat → FieldType := fun k => match k with
  | 0 => .int
  | 1 => .array .byte
  | 2 => .int
  | 3 => .int
  | 4 => .int
  | 5 => .int
  | 6 => .array .int
  | 7 => .array .int
  | 8 => .array .int
  | 9 => .array .long
  | 10 => .array .long
  | 11 => .int
  | 12 => .int
  | 13 => .int
  | 14 => .int
  | 15 => .int
  | 16 => .int
  | 17 => .long
  | 18 => .int
  | 19 => .int
  | 20 => .array .int
  | 21 => .array .int
  | 22 => .int
  | 23 => .array .int
  | 24 => .array .int
  | 25 => .array .int
  | 26 => .int
  | 27 => .int
  | 28 => .int
  | 29 => .int
  | 30 => .int
  | 31 => .int
  | 32 => .array .int
  | 33 => .int
  | 34 => .array .int
  | 35 => .array .int
  | 36 => .array .int
  | 37 => .int
  | 38 => .int
  | 39 => .int
  | 40 => .int
  | 41 => .int
  | 42 => .array .int
  | 43 => .boolean
  | 44 => .array .int
  | 45 => .int
  | 46 => .int
  | 47 => .int
  | 48 => .int
  | 49 => .boolean
  | 50 => .array .boolean
  | 51 => .array .int
  | 52 => .array .long
  | _ => .array .boolean
abbrev wsX120 : List Cond := u_ws RX12 TX12 54
theorem nmX12 : ∀ a, a < 54 → ∀ b, b < 54 → a ≠ b → (TX12 a).2.1 ≠ (TX12 b).2.1 := by decide +kernel
theorem tyX12_ok : ∀ k, k < 54 → parseFieldDescriptor (TX12 k).2.2.1 = some (tyX12 k) := by decide +kernel
abbrev cX12_throwsIf : ByteArray := prog_14_method_2_code
def yX12_throwsIf : MethodName := ⟨RX12, "throwsIf", "(Z)Z"⟩
abbrev cX12_feed : ByteArray := prog_14_method_3_code
def yX12_feed : MethodName := ⟨RX12, "feed", "(IIIII)I"⟩
abbrev cX12_four : ByteArray := prog_14_method_4_code
def yX12_four : MethodName := ⟨RX12, "four", "(I)V"⟩
abbrev cX12_end : ByteArray := prog_14_method_5_code
def yX12_end : MethodName := ⟨RX12, "end", "(I)Z"⟩
abbrev cX12_taken : ByteArray := prog_14_method_6_code
def yX12_taken : MethodName := ⟨RX12, "taken", "(I)V"⟩
abbrev cX12_isIn : ByteArray := prog_14_method_7_code
def yX12_isIn : MethodName := ⟨RX12, "isIn", "(III)Z"⟩
abbrev cX12_bitOf : ByteArray := prog_14_method_8_code
def yX12_bitOf : MethodName := ⟨RX12, "bitOf", "(II)Z"⟩
abbrev cX12_off : ByteArray := prog_14_method_9_code
def yX12_off : MethodName := ⟨RX12, "off", "(II)I"⟩
abbrev cX12_bits : ByteArray := prog_14_method_10_code
def yX12_bits : MethodName := ⟨RX12, "bits", "(I)I"⟩
abbrev cX12_init : ByteArray := prog_14_method_11_code
def yX12_init : MethodName := ⟨RX12, "<init>", "()V"⟩
abbrev cX12_peek : ByteArray := prog_14_method_12_code
def yX12_peek : MethodName := ⟨RX12, "peek", "()I"⟩
abbrev cX12_isSmall : ByteArray := prog_14_method_13_code
def yX12_isSmall : MethodName := ⟨RX12, "isSmall", "(I)Z"⟩
abbrev cX12_isDigit : ByteArray := prog_14_method_14_code
def yX12_isDigit : MethodName := ⟨RX12, "isDigit", "(I)Z"⟩
abbrev cX12_go : ByteArray := prog_14_method_15_code
def yX12_go : MethodName := ⟨RX12, "go", "()V"⟩
abbrev cX12_bad : ByteArray := prog_14_method_16_code
def yX12_bad : MethodName := ⟨RX12, "bad", "(I)Z"⟩
abbrev cX12_isWord : ByteArray := prog_14_method_17_code
def yX12_isWord : MethodName := ⟨RX12, "isWord", "(J)Z"⟩
abbrev cX12_isSign : ByteArray := prog_14_method_18_code
def yX12_isSign : MethodName := ⟨RX12, "isSign", "(I)Z"⟩
abbrev cX12_sign : ByteArray := prog_14_method_19_code
def yX12_sign : MethodName := ⟨RX12, "sign", "(I)Z"⟩
abbrev cX12_isName : ByteArray := prog_14_method_20_code
def yX12_isName : MethodName := ⟨RX12, "isName", "()Z"⟩
abbrev cX12_takes : ByteArray := prog_14_method_21_code
def yX12_takes : MethodName := ⟨RX12, "takes", "(II)Z"⟩
abbrev cX12_find : ByteArray := prog_14_method_22_code
def yX12_find : MethodName := ⟨RX12, "find", "(II)I"⟩
abbrev cX12_fresh : ByteArray := prog_14_method_23_code
def yX12_fresh : MethodName := ⟨RX12, "fresh", "(I)Z"⟩
abbrev cX12_looksAt : ByteArray := prog_14_method_24_code
def yX12_looksAt : MethodName := ⟨RX12, "looksAt", "(II)Z"⟩
abbrev cX12_takesName : ByteArray := prog_14_method_25_code
def yX12_takesName : MethodName := ⟨RX12, "takesName", "(II)Z"⟩
abbrev cX12_sets : ByteArray := prog_14_method_26_code
def yX12_sets : MethodName := ⟨RX12, "sets", "(I)Z"⟩
abbrev cX12_line : ByteArray := prog_14_method_27_code
def yX12_line : MethodName := ⟨RX12, "line", "()Z"⟩
abbrev cX12_readScene : ByteArray := prog_14_method_28_code
def yX12_readScene : MethodName := ⟨RX12, "readScene", "()Z"⟩
abbrev cX12_pairs : ByteArray := prog_14_method_29_code
def yX12_pairs : MethodName := ⟨RX12, "pairs", "()Z"⟩
abbrev cX12_play : ByteArray := prog_14_method_30_code
def yX12_play : MethodName := ⟨RX12, "play", "()I"⟩
abbrev cX12_fault : ByteArray := prog_14_method_31_code
def yX12_fault : MethodName := ⟨RX12, "fault", "()I"⟩
abbrev cX12_isPart : ByteArray := prog_14_method_32_code
def yX12_isPart : MethodName := ⟨RX12, "isPart", "(I)Z"⟩
abbrev cX12_isMan : ByteArray := prog_14_method_33_code
def yX12_isMan : MethodName := ⟨RX12, "isMan", "(I)Z"⟩
abbrev cX12_isOver : ByteArray := prog_14_method_34_code
def yX12_isOver : MethodName := ⟨RX12, "isOver", "()Z"⟩
abbrev cX12_partsOf : ByteArray := prog_14_method_35_code
def yX12_partsOf : MethodName := ⟨RX12, "partsOf", "(I)I"⟩
abbrev cX12_factsOf : ByteArray := prog_14_method_36_code
def yX12_factsOf : MethodName := ⟨RX12, "factsOf", "(I)I"⟩
abbrev cX12_castAs : ByteArray := prog_14_method_37_code
def yX12_castAs : MethodName := ⟨RX12, "castAs", "(I)I"⟩
abbrev cX12_part : ByteArray := prog_14_method_38_code
def yX12_part : MethodName := ⟨RX12, "part", "(II)I"⟩
abbrev cX12_man : ByteArray := prog_14_method_39_code
def yX12_man : MethodName := ⟨RX12, "man", "(II)I"⟩
abbrev cX12_act : ByteArray := prog_14_method_40_code
def yX12_act : MethodName := ⟨RX12, "act", "(II)I"⟩
abbrev cX12_scene : ByteArray := prog_14_method_41_code
def yX12_scene : MethodName := ⟨RX12, "scene", "(II)I"⟩
abbrev cX12_castNow : ByteArray := prog_14_method_42_code
def yX12_castNow : MethodName := ⟨RX12, "castNow", "()I"⟩
abbrev cX12_now : ByteArray := prog_14_method_43_code
def yX12_now : MethodName := ⟨RX12, "now", "(I)I"⟩
abbrev cX12_whyAlone : ByteArray := prog_14_method_44_code
def yX12_whyAlone : MethodName := ⟨RX12, "whyAlone", "(II)I"⟩
abbrev cX12_lacking : ByteArray := prog_14_method_45_code
def yX12_lacking : MethodName := ⟨RX12, "lacking", "(II)I"⟩
abbrev cX12_canAlone : ByteArray := prog_14_method_46_code
def yX12_canAlone : MethodName := ⟨RX12, "canAlone", "(II)Z"⟩
abbrev cX12_areTogether : ByteArray := prog_14_method_47_code
def yX12_areTogether : MethodName := ⟨RX12, "areTogether", "(II)Z"⟩
abbrev cX12_whyOf : ByteArray := prog_14_method_48_code
def yX12_whyOf : MethodName := ⟨RX12, "whyOf", "(II)I"⟩
abbrev cX12_why : ByteArray := prog_14_method_49_code
def yX12_why : MethodName := ⟨RX12, "why", "(II)I"⟩
abbrev cX12_cast : ByteArray := prog_14_method_50_code
def yX12_cast : MethodName := ⟨RX12, "cast", "(II)I"⟩
abbrev cX12_drop : ByteArray := prog_14_method_51_code
def yX12_drop : MethodName := ⟨RX12, "drop", "(I)I"⟩
abbrev cX12_canRise : ByteArray := prog_14_method_52_code
def yX12_canRise : MethodName := ⟨RX12, "canRise", "()Z"⟩
abbrev cX12_clapsFor : ByteArray := prog_14_method_53_code
def yX12_clapsFor : MethodName := ⟨RX12, "clapsFor", "(I)I"⟩
abbrev cX12_plays : ByteArray := prog_14_method_54_code
def yX12_plays : MethodName := ⟨RX12, "plays", "(II)V"⟩
abbrev cX12_rises : ByteArray := prog_14_method_55_code
def yX12_rises : MethodName := ⟨RX12, "rises", "()V"⟩
abbrev cX12_drops : ByteArray := prog_14_method_56_code
def yX12_drops : MethodName := ⟨RX12, "drops", "()V"⟩
abbrev cX12_curtain : ByteArray := prog_14_method_57_code
def yX12_curtain : MethodName := ⟨RX12, "curtain", "()I"⟩
abbrev cX12_canWhisper : ByteArray := prog_14_method_58_code
def yX12_canWhisper : MethodName := ⟨RX12, "canWhisper", "(II)Z"⟩
abbrev cX12_whispers : ByteArray := prog_14_method_59_code
def yX12_whispers : MethodName := ⟨RX12, "whispers", "(II)V"⟩
abbrev cX12_whisper : ByteArray := prog_14_method_60_code
def yX12_whisper : MethodName := ⟨RX12, "whisper", "(II)Z"⟩
abbrev cX12_keep : ByteArray := prog_14_method_61_code
def yX12_keep : MethodName := ⟨RX12, "keep", "()V"⟩
abbrev cX12_undo : ByteArray := prog_14_method_62_code
def yX12_undo : MethodName := ⟨RX12, "undo", "()I"⟩
abbrev cX12_tries : ByteArray := prog_14_method_63_code
def yX12_tries : MethodName := ⟨RX12, "tries", "()V"⟩
abbrev cX12_back : ByteArray := prog_14_method_64_code
def yX12_back : MethodName := ⟨RX12, "back", "()V"⟩
abbrev cX12_fits : ByteArray := prog_14_method_65_code
def yX12_fits : MethodName := ⟨RX12, "fits", "(IZ)Z"⟩
abbrev cX12_counts : ByteArray := prog_14_method_66_code
def yX12_counts : MethodName := ⟨RX12, "counts", "(II)V"⟩
abbrev cX12_castsBy : ByteArray := prog_14_method_67_code
def yX12_castsBy : MethodName := ⟨RX12, "castsBy", "(ZI)V"⟩
abbrev cX12_best : ByteArray := prog_14_method_68_code
def yX12_best : MethodName := ⟨RX12, "best", "()I"⟩
abbrev cX12_bestAs : ByteArray := prog_14_method_69_code
def yX12_bestAs : MethodName := ⟨RX12, "bestAs", "(I)I"⟩
abbrev cX12_casts : ByteArray := prog_14_method_70_code
def yX12_casts : MethodName := ⟨RX12, "casts", "()I"⟩
abbrev cX12_bowed : ByteArray := prog_14_method_71_code
def yX12_bowed : MethodName := ⟨RX12, "bowed", "(I)I"⟩
abbrev cX12_surely : ByteArray := prog_14_method_72_code
def yX12_surely : MethodName := ⟨RX12, "surely", "()I"⟩
abbrev cX12_least : ByteArray := prog_14_method_73_code
def yX12_least : MethodName := ⟨RX12, "least", "()I"⟩
abbrev cX12_whispers_ : ByteArray := prog_14_method_74_code
def yX12_whispers_ : MethodName := ⟨RX12, "whispers", "()I"⟩
abbrev cX12_lacks : ByteArray := prog_14_method_75_code
def yX12_lacks : MethodName := ⟨RX12, "lacks", "()I"⟩
abbrev cX12_suspectsBy : ByteArray := prog_14_method_76_code
def yX12_suspectsBy : MethodName := ⟨RX12, "suspectsBy", "(I)I"⟩
abbrev cX12_suspects : ByteArray := prog_14_method_77_code
def yX12_suspects : MethodName := ⟨RX12, "suspects", "(I)I"⟩
abbrev cX12_isSure : ByteArray := prog_14_method_78_code
def yX12_isSure : MethodName := ⟨RX12, "isSure", "(I)Z"⟩
abbrev cX12_sure : ByteArray := prog_14_method_79_code
def yX12_sure : MethodName := ⟨RX12, "sure", "()I"⟩
abbrev cX12_tells : ByteArray := prog_14_method_80_code
def yX12_tells : MethodName := ⟨RX12, "tells", "(I)I"⟩
abbrev cX12_wantOf : ByteArray := prog_14_method_81_code
def yX12_wantOf : MethodName := ⟨RX12, "wantOf", "(I)I"⟩
abbrev cX12_prices : ByteArray := prog_14_method_82_code
def yX12_prices : MethodName := ⟨RX12, "prices", "()I"⟩
abbrev cX12_price : ByteArray := prog_14_method_83_code
def yX12_price : MethodName := ⟨RX12, "price", "(I)I"⟩
abbrev cX12_wants : ByteArray := prog_14_method_84_code
def yX12_wants : MethodName := ⟨RX12, "wants", "(I)I"⟩
abbrev cX12_castsBest : ByteArray := prog_14_method_85_code
def yX12_castsBest : MethodName := ⟨RX12, "castsBest", "()Z"⟩
abbrev cX12_goesOnBy : ByteArray := prog_14_method_86_code
def yX12_goesOnBy : MethodName := ⟨RX12, "goesOnBy", "()I"⟩
abbrev cX12_goesOn : ByteArray := prog_14_method_87_code
def yX12_goesOn : MethodName := ⟨RX12, "goesOn", "()I"⟩
abbrev cX12_joy : ByteArray := prog_14_method_88_code
def yX12_joy : MethodName := ⟨RX12, "joy", "()I"⟩
abbrev cX12_valueOf : ByteArray := prog_14_method_89_code
def yX12_valueOf : MethodName := ⟨RX12, "valueOf", "(II)I"⟩
abbrev cX12_favourite : ByteArray := prog_14_method_90_code
def yX12_favourite : MethodName := ⟨RX12, "favourite", "(I)I"⟩
abbrev cX12_draw : ByteArray := prog_14_method_91_code
def yX12_draw : MethodName := ⟨RX12, "draw", "(I)I"⟩
abbrev cX12_draws : ByteArray := prog_14_method_92_code
def yX12_draws : MethodName := ⟨RX12, "draws", "(I)I"⟩
abbrev cX12_drawn : ByteArray := prog_14_method_93_code
def yX12_drawn : MethodName := ⟨RX12, "drawn", "(I)I"⟩
abbrev cX12_odds : ByteArray := prog_14_method_94_code
def yX12_odds : MethodName := ⟨RX12, "odds", "(II)I"⟩
abbrev cX12_bookLine : ByteArray := prog_14_method_95_code
def yX12_bookLine : MethodName := ⟨RX12, "bookLine", "()Z"⟩
abbrev cX12_does : ByteArray := prog_14_method_96_code
def yX12_does : MethodName := ⟨RX12, "does", "(I)I"⟩
abbrev cX12_book : ByteArray := prog_14_method_97_code
def yX12_book : MethodName := ⟨RX12, "book", "(I)I"⟩
abbrev cX12_booked : ByteArray := prog_14_method_98_code
def yX12_booked : MethodName := ⟨RX12, "booked", "(I)I"⟩
abbrev cX12_code : ByteArray := prog_14_method_99_code
def yX12_code : MethodName := ⟨RX12, "code", "(III)V"⟩
abbrev cX12_joins : ByteArray := prog_14_method_100_code
def yX12_joins : MethodName := ⟨RX12, "joins", "(I)V"⟩
abbrev cX12_nots : ByteArray := prog_14_method_101_code
def yX12_nots : MethodName := ⟨RX12, "nots", "()V"⟩
abbrev cX12_leafOf : ByteArray := prog_14_method_102_code
def yX12_leafOf : MethodName := ⟨RX12, "leafOf", "()I"⟩
abbrev cX12_operand : ByteArray := prog_14_method_103_code
def yX12_operand : MethodName := ⟨RX12, "operand", "()Z"⟩
abbrev cX12_behind : ByteArray := prog_14_method_104_code
def yX12_behind : MethodName := ⟨RX12, "behind", "()Z"⟩
abbrev cX12_sentence : ByteArray := prog_14_method_105_code
def yX12_sentence : MethodName := ⟨RX12, "sentence", "()I"⟩
abbrev cX12_isLeaf : ByteArray := prog_14_method_106_code
def yX12_isLeaf : MethodName := ⟨RX12, "isLeaf", "(IIII)Z"⟩
abbrev cX12_isSaid : ByteArray := prog_14_method_107_code
def yX12_isSaid : MethodName := ⟨RX12, "isSaid", "(I)Z"⟩
abbrev cX12_said : ByteArray := prog_14_method_108_code
def yX12_said : MethodName := ⟨RX12, "said", "(I)I"⟩
abbrev cX12_image : ByteArray := prog_14_method_109_code
def yX12_image : MethodName := ⟨RX12, "image", "(I)Z"⟩
abbrev cX12_restore : ByteArray := prog_14_method_110_code
def yX12_restore : MethodName := ⟨RX12, "restore", "(I)Z"⟩
abbrev cX12_count : ByteArray := prog_14_method_111_code
def yX12_count : MethodName := ⟨RX12, "count", "(I)I"⟩
def RJx145de : String := "java/io/Serializable"
def TJx145de : u_T := fun k => match k with
  | _ => ("", "", "", false)
def tyJx145de : Nat → FieldType := fun k => match k with
  | _ => .int
abbrev wsJx145de0 : List Cond := u_ws RJx145de TJx145de 0
theorem nmJx145de : ∀ a, a < 0 → ∀ b, b < 0 → a ≠ b → (TJx145de a).2.1 ≠ (TJx145de b).2.1 := by decide +kernel
theorem tyJx145de_ok : ∀ k, k < 0 → parseFieldDescriptor (TJx145de k).2.2.1 = some (tyJx145de k) := by decide +kernel
def RJx9f9b0 : String := "java/lang/CharSequence"
def TJx9f9b0 : u_T := fun k => match k with
  | _ => ("", "", "", false)
def tyJx9f9b0 : Nat → FieldType := fun k => match k with
  | _ => .int
abbrev wsJx9f9b00 : List Cond := u_ws RJx9f9b0 TJx9f9b0 0
theorem nmJx9f9b0 : ∀ a, a < 0 → ∀ b, b < 0 → a ≠ b → (TJx9f9b0 a).2.1 ≠ (TJx9f9b0 b).2.1 := by decide +kernel
theorem tyJx9f9b0_ok : ∀ k, k < 0 → parseFieldDescriptor (TJx9f9b0 k).2.2.1 = some (tyJx9f9b0 k) := by decide +kernel
def RJxb160c : String := "java/lang/Comparable"
def TJxb160c : u_T := fun k => match k with
  | _ => ("", "", "", false)
def tyJxb160c : Nat → FieldType := fun k => match k with
  | _ => .int
abbrev wsJxb160c0 : List Cond := u_ws RJxb160c TJxb160c 0
theorem nmJxb160c : ∀ a, a < 0 → ∀ b, b < 0 → a ≠ b → (TJxb160c a).2.1 ≠ (TJxb160c b).2.1 := by decide +kernel
theorem tyJxb160c_ok : ∀ k, k < 0 → parseFieldDescriptor (TJxb160c k).2.2.1 = some (tyJxb160c k) := by decide +kernel
def RJ6 : String := "java/lang/Integer"
def TJ6 : u_T := fun k => match k with
  | _ => ("", "", "", false)
def tyJ6 : Nat → FieldType := fun k => match k with
  | _ => .int
abbrev wsJ60 : List Cond := u_ws RJ6 TJ6 0
theorem nmJ6 : ∀ a, a < 0 → ∀ b, b < 0 → a ≠ b → (TJ6 a).2.1 ≠ (TJ6 b).2.1 := by decide +kernel
theorem tyJ6_ok : ∀ k, k < 0 → parseFieldDescriptor (TJ6 k).2.2.1 = some (tyJ6 k) := by decide +kernel
abbrev cJ6_bitCount_0f7a4 : ByteArray := prog_19_method_49_code
def yJ6_bitCount_0f7a4 : MethodName := ⟨RJ6, "bitCount", "(I)I"⟩
def RJ9 : String := "java/lang/Math"
def TJ9 : u_T := fun k => match k with
  | _ => ("", "", "", false)
def tyJ9 : Nat → FieldType := fun k => match k with
  | _ => .int
abbrev wsJ90 : List Cond := u_ws RJ9 TJ9 0
theorem nmJ9 : ∀ a, a < 0 → ∀ b, b < 0 → a ≠ b → (TJ9 a).2.1 ≠ (TJ9 b).2.1 := by decide +kernel
theorem tyJ9_ok : ∀ k, k < 0 → parseFieldDescriptor (TJ9 k).2.2.1 = some (tyJ9 k) := by decide +kernel
abbrev cJ9_abs_0f7a4 : ByteArray := prog_20_method_59_code
def yJ9_abs_0f7a4 : MethodName := ⟨RJ9, "abs", "(I)I"⟩
abbrev cJ9_min_7cf53 : ByteArray := prog_20_method_69_code
def yJ9_min_7cf53 : MethodName := ⟨RJ9, "min", "(II)I"⟩
def RJ0 : String := "java/lang/String"
def TJ0 : u_T := fun k => match k with
  | _ => ("", "", "", false)
def tyJ0 : Nat → FieldType := fun k => match k with
  | _ => .int
abbrev wsJ00 : List Cond := u_ws RJ0 TJ0 0
theorem nmJ0 : ∀ a, a < 0 → ∀ b, b < 0 → a ≠ b → (TJ0 a).2.1 ≠ (TJ0 b).2.1 := by decide +kernel
theorem tyJ0_ok : ∀ k, k < 0 → parseFieldDescriptor (TJ0 k).2.2.1 = some (tyJ0 k) := by decide +kernel
abbrev cJ0_length_8abf5 : ByteArray := prog_22_method_54_code
def yJ0_length_8abf5 : MethodName := ⟨RJ0, "length", "()I"⟩
abbrev cJ0_charAt_5068e : ByteArray := prog_22_method_56_code
def yJ0_charAt_5068e : MethodName := ⟨RJ0, "charAt", "(I)C"⟩
abbrev cJ0_coder_7d493 : ByteArray := prog_22_method_152_code
def yJ0_coder_7d493 : MethodName := ⟨RJ0, "coder", "()B"⟩
abbrev cJ0_isLatin1_aae02 : ByteArray := prog_22_method_154_code
def yJ0_isLatin1_aae02 : MethodName := ⟨RJ0, "isLatin1", "()Z"⟩
abbrev cJ0_checkIndex_df160 : ByteArray := prog_22_method_155_code
def yJ0_checkIndex_df160 : MethodName := ⟨RJ0, "checkIndex", "(II)V"⟩
def RJ1 : String := "java/lang/StringLatin1"
def TJ1 : u_T := fun k => match k with
  | _ => ("", "", "", false)
def tyJ1 : Nat → FieldType := fun k => match k with
  | _ => .int
abbrev wsJ10 : List Cond := u_ws RJ1 TJ1 0
theorem nmJ1 : ∀ a, a < 0 → ∀ b, b < 0 → a ≠ b → (TJ1 a).2.1 ≠ (TJ1 b).2.1 := by decide +kernel
theorem tyJ1_ok : ∀ k, k < 0 → parseFieldDescriptor (TJ1 k).2.2.1 = some (tyJ1 k) := by decide +kernel
abbrev cJ1_charAt_3b067 : ByteArray := prog_23_method_2_code
def yJ1_charAt_3b067 : MethodName := ⟨RJ1, "charAt", "([BI)C"⟩
def RJ2 : String := "java/lang/StringUTF16"
def TJ2 : u_T := fun k => match k with
  | _ => ("", "", "", false)
def tyJ2 : Nat → FieldType := fun k => match k with
  | _ => .int
abbrev wsJ20 : List Cond := u_ws RJ2 TJ2 0
theorem nmJ2 : ∀ a, a < 0 → ∀ b, b < 0 → a ≠ b → (TJ2 a).2.1 ≠ (TJ2 b).2.1 := by decide +kernel
theorem tyJ2_ok : ∀ k, k < 0 → parseFieldDescriptor (TJ2 k).2.2.1 = some (tyJ2 k) := by decide +kernel
abbrev cJ2_getChar_3b067 : ByteArray := prog_24_method_5_code
def yJ2_getChar_3b067 : MethodName := ⟨RJ2, "getChar", "([BI)C"⟩
abbrev cJ2_length_9d52b : ByteArray := prog_24_method_6_code
def yJ2_length_9d52b : MethodName := ⟨RJ2, "length", "([B)I"⟩
abbrev cJ2_charAt_3b067 : ByteArray := prog_24_method_83_code
def yJ2_charAt_3b067 : MethodName := ⟨RJ2, "charAt", "([BI)C"⟩
abbrev cJ2_checkIndex_2214a : ByteArray := prog_24_method_91_code
def yJ2_checkIndex_2214a : MethodName := ⟨RJ2, "checkIndex", "(I[B)V"⟩
def RJ10 : String := "java/lang/System"
def TJ10 : u_T := fun k => match k with
  | _ => ("", "", "", false)
def tyJ10 : Nat → FieldType := fun k => match k with
  | _ => .int
abbrev wsJ100 : List Cond := u_ws RJ10 TJ10 0
theorem nmJ10 : ∀ a, a < 0 → ∀ b, b < 0 → a ≠ b → (TJ10 a).2.1 ≠ (TJ10 b).2.1 := by decide +kernel
theorem tyJ10_ok : ∀ k, k < 0 → parseFieldDescriptor (TJ10 k).2.2.1 = some (tyJ10 k) := by decide +kernel
def RJxfd54e : String := "java/lang/constant/Constable"
def TJxfd54e : u_T := fun k => match k with
  | _ => ("", "", "", false)
def tyJxfd54e : Nat → FieldType := fun k => match k with
  | _ => .int
abbrev wsJxfd54e0 : List Cond := u_ws RJxfd54e TJxfd54e 0
theorem nmJxfd54e : ∀ a, a < 0 → ∀ b, b < 0 → a ≠ b → (TJxfd54e a).2.1 ≠ (TJxfd54e b).2.1 := by decide +kernel
theorem tyJxfd54e_ok : ∀ k, k < 0 → parseFieldDescriptor (TJxfd54e k).2.2.1 = some (tyJxfd54e k) := by decide +kernel
def RJx3cf43 : String := "java/lang/constant/ConstantDesc"
def TJx3cf43 : u_T := fun k => match k with
  | _ => ("", "", "", false)
def tyJx3cf43 : Nat → FieldType := fun k => match k with
  | _ => .int
abbrev wsJx3cf430 : List Cond := u_ws RJx3cf43 TJx3cf43 0
theorem nmJx3cf43 : ∀ a, a < 0 → ∀ b, b < 0 → a ≠ b → (TJx3cf43 a).2.1 ≠ (TJx3cf43 b).2.1 := by decide +kernel
theorem tyJx3cf43_ok : ∀ k, k < 0 → parseFieldDescriptor (TJx3cf43 k).2.2.1 = some (tyJx3cf43 k) := by decide +kernel
def RJ7 : String := "java/util/Arrays"
def TJ7 : u_T := fun k => match k with
  | _ => ("", "", "", false)
def tyJ7 : Nat → FieldType := fun k => match k with
  | _ => .int
abbrev wsJ70 : List Cond := u_ws RJ7 TJ7 0
theorem nmJ7 : ∀ a, a < 0 → ∀ b, b < 0 → a ≠ b → (TJ7 a).2.1 ≠ (TJ7 b).2.1 := by decide +kernel
theorem tyJ7_ok : ∀ k, k < 0 → parseFieldDescriptor (TJ7 k).2.2.1 = some (tyJ7 k) := by decide +kernel
abbrev cJ7_fill_53178 : ByteArray := prog_29_method_103_code
def yJ7_fill_53178 : MethodName := ⟨RJ7, "fill", "([II)V"⟩
def RJ3 : String := "jdk/internal/util/Preconditions"
def TJ3 : u_T := fun k => match k with
  | _ => ("", "", "", false)
def tyJ3 : Nat → FieldType := fun k => match k with
  | _ => .int
abbrev wsJ30 : List Cond := u_ws RJ3 TJ3 0
theorem nmJ3 : ∀ a, a < 0 → ∀ b, b < 0 → a ≠ b → (TJ3 a).2.1 ≠ (TJ3 b).2.1 := by decide +kernel
theorem tyJ3_ok : ∀ k, k < 0 → parseFieldDescriptor (TJ3 k).2.2.1 = some (tyJ3 k) := by decide +kernel
abbrev cJ3_checkIndex_8e157 : ByteArray := prog_31_method_11_code
def yJ3_checkIndex_8e157 : MethodName := ⟨RJ3, "checkIndex", "(IILjava/util/function/BiFunction;)I"⟩
def RL : String := "RecastStageLaw"
abbrev cL_man : ByteArray := method_3_code
def yL_man : MethodName := ⟨RL, "man", "(LRecastStage;II[J)I"⟩
abbrev cL_law : ByteArray := code
def yL_law : MethodName := ⟨RL, "law", "([I)Z"⟩
def wsL_law0_r1 : List Cond := [Cond.classLink RL 8 RX11, Cond.instantiable RX11 14, Cond.initialized RX11, Cond.classLink RL 16 RX12, Cond.instantiable RX12 54, Cond.initialized RX12, Cond.arrayClass .long, Cond.methodLink RL 15 yX11_init, Cond.instanceMethod yX11_init, Cond.code yX11_init cX11_init 2 none, Cond.methodLink RX11 1 objectInit, Cond.instanceMethod objectInit, Cond.code objectInit ⟨#[0xb1]⟩ 1 none, Cond.classLink RX11 7 RX8, Cond.instantiable RX8 11, Cond.initialized RX8, Cond.fieldLink RX11 10 "RecastStage" "reader" "LRecastStage$Reader;", Cond.classLink RX11 16 RX7, Cond.instantiable RX7 1, Cond.initialized RX7, Cond.fieldLink RX11 19 "RecastStage" "playReader" "LRecastStage$PlayReader;", Cond.classLink RX11 23 RX6, Cond.instantiable RX6 20, Cond.initialized RX6]
def wsL_law0_r2 : List Cond := [Cond.fieldLink RX11 26 "RecastStage" "play" "LRecastStage$Play;", Cond.classLink RX11 30 RX2, Cond.instantiable RX2 13, Cond.initialized RX2, Cond.fieldLink RX11 33 "RecastStage" "evening" "LRecastStage$Evening;", Cond.fieldLink RX11 37 "RecastStage" "trial" "LRecastStage$Evening;", Cond.classLink RX11 40 RX3, Cond.instantiable RX3 3, Cond.initialized RX3, Cond.fieldLink RX11 43 "RecastStage" "history" "LRecastStage$History;", Cond.classLink RX11 47 RX9, Cond.instantiable RX9 6, Cond.initialized RX9, Cond.fieldLink RX11 50 "RecastStage" "sentence" "LRecastStage$Sentence;", Cond.fieldLink RX11 54 "RecastStage" "newSentence" "LRecastStage$Sentence;", Cond.classLink RX11 57 RX1, Cond.instantiable RX1 13, Cond.initialized RX1, Cond.fieldLink RX11 60 "RecastStage" "casting" "LRecastStage$Casting;", Cond.classLink RX11 64 RX5, Cond.instantiable RX5 3, Cond.initialized RX5, Cond.fieldLink RX11 67 "RecastStage" "market" "LRecastStage$Market;", Cond.classLink RX11 71 RX0]
def wsL_law0_r3 : List Cond := [Cond.instantiable RX0 9, Cond.initialized RX0, Cond.fieldLink RX11 74 "RecastStage" "book" "LRecastStage$Book;", Cond.classLink RX11 78 RX4, Cond.fieldLink RX11 80 "RecastStage" "images" "[LRecastStage$Image;", Cond.arrayClass .int, Cond.fieldLink RX11 84 "RecastStage" "bestMen" "[I", Cond.fieldLink RX11 88 "RecastStage" "latestFault" "I", Cond.instantiable RX4 4, Cond.initialized RX4, Cond.methodLink RX11 9 yX8_init, Cond.instanceMethod yX8_init, Cond.code yX8_init cX8_init 1 none, Cond.methodLink RX8 3 objectInit, Cond.classLink RX8 9 RX10, Cond.instantiable RX10 2, Cond.initialized RX10, Cond.fieldLink RX8 12 "RecastStage$Reader" "tape" "LRecastStage$Tape;", Cond.fieldLink RX8 18 "RecastStage$Reader" "most" "I", Cond.fieldLink RX8 22 "RecastStage$Reader" "behind" "I", Cond.fieldLink RX8 25 "RecastStage$Reader" "kind" "I", Cond.fieldLink RX8 28 "RecastStage$Reader" "place" "I", Cond.fieldLink RX8 31 "RecastStage$Reader" "value" "I", Cond.fieldLink RX8 34 "RecastStage$Reader" "word" "I"]
def wsL_law0_r4 : List Cond := [Cond.fieldLink RX8 37 "RecastStage$Reader" "name" "J", Cond.fieldLink RX8 41 "RecastStage$Reader" "fault" "I", Cond.fieldLink RX8 44 "RecastStage$Reader" "faultPlace" "I", Cond.fieldLink RX8 53 "RecastStage$Reader" "reserved" "[J", Cond.instanceMethod yX10_init, Cond.code yX10_init cX10_init 1 none, Cond.methodLink RX10 3 objectInit, Cond.arrayClass .byte, Cond.fieldLink RX10 9 "RecastStage$Tape" "bytes" "[B", Cond.fieldLink RX10 15 "RecastStage$Tape" "length" "I", Cond.methodLink RX8 49 yX8_namesOf, Cond.static yX8_namesOf, Cond.code yX8_namesOf cX8_namesOf 5 (some (.array .long)), Cond.methodLink RX8 57 yJ0_length_8abf5, Cond.instanceMethod yJ0_length_8abf5, Cond.selects RJ0 yJ0_length_8abf5 yJ0_length_8abf5, Cond.initialized RJ0, Cond.code yJ0_length_8abf5 cJ0_length_8abf5 1 (some .int), Cond.fieldLink RJ0 9 "java/lang/String" "value" "[B", Cond.methodLink RJ0 335 yJ0_coder_7d493, Cond.instanceMethod yJ0_coder_7d493, Cond.selects RJ0 yJ0_coder_7d493 yJ0_coder_7d493, Cond.code yJ0_coder_7d493 cJ0_coder_7d493 1 (some .byte), Cond.fieldLink RJ0 38 "java/lang/String" "COMPACT_STRINGS" "Z"]
def wsL_law0_r5 : List Cond := [Cond.fieldLink RJ0 15 "java/lang/String" "coder" "B", Cond.methodLink RX8 63 yJ0_charAt_5068e, Cond.instanceMethod yJ0_charAt_5068e, Cond.selects RJ0 yJ0_charAt_5068e yJ0_charAt_5068e, Cond.code yJ0_charAt_5068e cJ0_charAt_5068e 2 (some .char), Cond.methodLink RJ0 492 yJ0_isLatin1_aae02, Cond.instanceMethod yJ0_isLatin1_aae02, Cond.selects RJ0 yJ0_isLatin1_aae02 yJ0_isLatin1_aae02, Cond.code yJ0_isLatin1_aae02 cJ0_isLatin1_aae02 1 (some .boolean), Cond.methodLink RJ0 495 yJ1_charAt_3b067, Cond.static yJ1_charAt_3b067, Cond.initialized RJ1, Cond.code yJ1_charAt_3b067 cJ1_charAt_3b067 2 (some .char), Cond.methodLink RJ1 9 yJ0_checkIndex_df160, Cond.static yJ0_checkIndex_df160, Cond.code yJ0_checkIndex_df160 cJ0_checkIndex_df160 2 none, Cond.fieldLink RJ0 1053 "jdk/internal/util/Preconditions" "SIOOBE_FORMATTER" "Ljava/util/function/BiFunction;", Cond.methodLink RJ0 1059 yJ3_checkIndex_8e157, Cond.static yJ3_checkIndex_8e157, Cond.initialized RJ3, Cond.code yJ3_checkIndex_8e157 cJ3_checkIndex_8e157 3 (some .int), Cond.methodLink RJ0 498 yJ2_charAt_3b067, Cond.static yJ2_charAt_3b067, Cond.initialized RJ2]
def wsL_law0_r6 : List Cond := [Cond.code yJ2_charAt_3b067 cJ2_charAt_3b067 2 (some .char), Cond.methodLink RJ2 67 yJ2_checkIndex_2214a, Cond.static yJ2_checkIndex_2214a, Cond.code yJ2_checkIndex_2214a cJ2_checkIndex_2214a 2 none, Cond.methodLink RJ2 48 yJ2_length_9d52b, Cond.static yJ2_length_9d52b, Cond.code yJ2_length_9d52b cJ2_length_9d52b 1 (some .int), Cond.methodLink RJ2 414 yJ0_checkIndex_df160, Cond.methodLink RJ2 71 yJ2_getChar_3b067, Cond.static yJ2_getChar_3b067, Cond.code yJ2_getChar_3b067 cJ2_getChar_3b067 2 (some .char), Cond.fieldLink RJ2 44 "java/lang/StringUTF16" "$assertionsDisabled" "Z", Cond.fieldLink RJ2 59 "java/lang/StringUTF16" "HI_BYTE_SHIFT" "I", Cond.fieldLink RJ2 63 "java/lang/StringUTF16" "LO_BYTE_SHIFT" "I", Cond.methodLink RX8 67 yX8_withLetter, Cond.static yX8_withLetter, Cond.code yX8_withLetter cX8_withLetter 3 (some .long), Cond.constantLong RX8 71 (32), Cond.instanceMethod yX7_init, Cond.code yX7_init cX7_init 1 none, Cond.methodLink RX7 3 objectInit, Cond.classLink RX7 9 RX6, Cond.fieldLink RX7 12 "RecastStage$PlayReader" "told" "LRecastStage$Play;", Cond.instanceMethod yX6_init]
def wsL_law0_r7 : List Cond := [Cond.code yX6_init cX6_init 1 none, Cond.methodLink RX6 3 objectInit, Cond.fieldLink RX6 9 "RecastStage$Play" "parts" "I", Cond.fieldLink RX6 15 "RecastStage$Play" "facts" "I", Cond.fieldLink RX6 18 "RecastStage$Play" "men" "I", Cond.fieldLink RX6 21 "RecastStage$Play" "acts" "I", Cond.fieldLink RX6 24 "RecastStage$Play" "scenes" "I", Cond.fieldLink RX6 27 "RecastStage$Play" "rest" "Z", Cond.fieldLink RX6 31 "RecastStage$Play" "partNames" "[J", Cond.fieldLink RX6 35 "RecastStage$Play" "factNames" "[J", Cond.fieldLink RX6 38 "RecastStage$Play" "manNames" "[J", Cond.fieldLink RX6 41 "RecastStage$Play" "partSkill" "[I", Cond.fieldLink RX6 45 "RecastStage$Play" "partNeeds" "[I", Cond.fieldLink RX6 48 "RecastStage$Play" "factClears" "[I", Cond.fieldLink RX6 51 "RecastStage$Play" "manSkill" "[I", Cond.fieldLink RX6 54 "RecastStage$Play" "manSeat" "[I", Cond.fieldLink RX6 57 "RecastStage$Play" "manNever" "[I", Cond.fieldLink RX6 60 "RecastStage$Play" "manFoes" "[I", Cond.fieldLink RX6 63 "RecastStage$Play" "likes" "[I", Cond.fieldLink RX6 66 "RecastStage$Play" "sceneAct" "[I", Cond.fieldLink RX6 69 "RecastStage$Play" "sceneParts" "[I", Cond.fieldLink RX6 72 "RecastStage$Play" "sceneFacts" "[I", Cond.methodLink RX11 32 yX2_init, Cond.instanceMethod yX2_init]
def wsL_law0_r8 : List Cond := [Cond.code yX2_init cX2_init 1 none, Cond.methodLink RX2 3 objectInit, Cond.fieldLink RX2 9 "RecastStage$Evening" "next" "I", Cond.fieldLink RX2 15 "RecastStage$Evening" "joySoFar" "I", Cond.fieldLink RX2 18 "RecastStage$Evening" "lossSoFar" "I", Cond.fieldLink RX2 21 "RecastStage$Evening" "whispered" "I", Cond.fieldLink RX2 24 "RecastStage$Evening" "money" "I", Cond.fieldLink RX2 27 "RecastStage$Evening" "clapsSoFar" "I", Cond.fieldLink RX2 30 "RecastStage$Evening" "ahead" "I", Cond.fieldLink RX2 33 "RecastStage$Evening" "ill" "I", Cond.fieldLink RX2 36 "RecastStage$Evening" "manAs" "[I", Cond.fieldLink RX2 40 "RecastStage$Evening" "lastAs" "[I", Cond.fieldLink RX2 43 "RecastStage$Evening" "known" "[I", Cond.fieldLink RX2 46 "RecastStage$Evening" "times" "[I", Cond.fieldLink RX2 49 "RecastStage$Evening" "clapsFor" "[I", Cond.methodLink RX2 52 yJ7_fill_53178, Cond.static yJ7_fill_53178, Cond.initialized RJ7, Cond.code yJ7_fill_53178 cJ7_fill_53178 4 none, Cond.methodLink RX11 42 yX3_init, Cond.instanceMethod yX3_init, Cond.code yX3_init cX3_init 2 none, Cond.methodLink RX3 3 objectInit, Cond.classLink RX3 9 RX2]
def wsL_law0_r9 : List Cond := [Cond.fieldLink RX3 11 "RecastStage$History" "evenings" "[LRecastStage$Evening;", Cond.fieldLink RX3 17 "RecastStage$History" "oldest" "I", Cond.fieldLink RX3 21 "RecastStage$History" "kept" "I", Cond.methodLink RX3 24 yX2_init, Cond.instanceMethod yX9_init, Cond.code yX9_init cX9_init 1 none, Cond.methodLink RX9 3 objectInit, Cond.fieldLink RX9 9 "RecastStage$Sentence" "ones" "I", Cond.fieldLink RX9 15 "RecastStage$Sentence" "steps" "I", Cond.fieldLink RX9 18 "RecastStage$Sentence" "kinds" "[I", Cond.fieldLink RX9 22 "RecastStage$Sentence" "signs" "[I", Cond.fieldLink RX9 25 "RecastStage$Sentence" "numbers" "[I", Cond.fieldLink RX9 28 "RecastStage$Sentence" "sets" "[I", Cond.instanceMethod yX1_init, Cond.code yX1_init cX1_init 1 none, Cond.methodLink RX1 3 objectInit, Cond.fieldLink RX1 9 "RecastStage$Casting" "men" "I", Cond.fieldLink RX1 15 "RecastStage$Casting" "foes" "[I", Cond.fieldLink RX1 19 "RecastStage$Casting" "levels" "I", Cond.fieldLink RX1 22 "RecastStage$Casting" "partAt" "[I", Cond.fieldLink RX1 25 "RecastStage$Casting" "ableAt" "[I", Cond.fieldLink RX1 28 "RecastStage$Casting" "besideAt" "[I", Cond.fieldLink RX1 31 "RecastStage$Casting" "costs" "[I", Cond.fieldLink RX1 34 "RecastStage$Casting" "cheapestFrom" "[I"]
def wsL_law0_r10 : List Cond := [Cond.fieldLink RX1 37 "RecastStage$Casting" "manAt" "[I", Cond.fieldLink RX1 40 "RecastStage$Casting" "foundAt" "[I", Cond.constant RX1 43 (1000000), Cond.fieldLink RX1 44 "RecastStage$Casting" "cheapest" "I", Cond.fieldLink RX1 47 "RecastStage$Casting" "total" "I", Cond.fieldLink RX1 50 "RecastStage$Casting" "always" "I", Cond.instanceMethod yX5_init, Cond.code yX5_init cX5_init 1 none, Cond.methodLink RX5 3 objectInit, Cond.fieldLink RX5 9 "RecastStage$Market" "told" "Z", Cond.fieldLink RX5 15 "RecastStage$Market" "priceOf" "[I", Cond.fieldLink RX5 19 "RecastStage$Market" "wantedBy" "[I", Cond.instanceMethod yX0_init, Cond.code yX0_init cX0_init 1 none, Cond.methodLink RX0 3 objectInit, Cond.fieldLink RX0 9 "RecastStage$Book" "lines" "I", Cond.fieldLink RX0 15 "RecastStage$Book" "deeds" "[I", Cond.fieldLink RX0 19 "RecastStage$Book" "men" "[I", Cond.fieldLink RX0 22 "RecastStage$Book" "things" "[I", Cond.fieldLink RX0 25 "RecastStage$Book" "judged" "Z", Cond.fieldLink RX0 29 "RecastStage$Book" "reason" "I", Cond.fieldLink RX0 32 "RecastStage$Book" "rightLines" "I", Cond.fieldLink RX0 35 "RecastStage$Book" "nextThen" "I", Cond.fieldLink RX0 38 "RecastStage$Book" "joyInIt" "I"]
def wsL_law0_r11 : List Cond := [Cond.instanceMethod yX4_init, Cond.code yX4_init cX4_init 1 none, Cond.methodLink RX4 1 objectInit, Cond.fieldLink RX4 7 "RecastStage$Image" "filled" "Z", Cond.classLink RX4 13 RX6, Cond.fieldLink RX4 16 "RecastStage$Image" "play" "LRecastStage$Play;", Cond.classLink RX4 20 RX2, Cond.fieldLink RX4 23 "RecastStage$Image" "evening" "LRecastStage$Evening;", Cond.classLink RX4 27 RX9, Cond.fieldLink RX4 30 "RecastStage$Image" "sentence" "LRecastStage$Sentence;", Cond.methodLink RX4 22 yX2_init, Cond.methodLink RX11 93 yJ7_fill_53178, Cond.methodLink RL 18 yX12_init, Cond.instanceMethod yX12_init, Cond.code yX12_init cX12_init 1 none, Cond.methodLink RX12 27 objectInit, Cond.fieldLink RX12 14 "RecastStageModel" "tape" "[B", Cond.fieldLink RX12 33 "RecastStageModel" "s" "[I", Cond.fieldLink RX12 37 "RecastStageModel" "h" "[I", Cond.fieldLink RX12 40 "RecastStageModel" "read" "[I", Cond.fieldLink RX12 43 "RecastStageModel" "names" "[J", Cond.fieldLink RX12 47 "RecastStageModel" "reserved" "[J", Cond.fieldLink RX12 50 "RecastStageModel" "undone" "[I", Cond.fieldLink RX12 53 "RecastStageModel" "before" "[I"]
def wsL_law0_r12 : List Cond := [Cond.fieldLink RX12 56 "RecastStageModel" "partAt" "[I", Cond.fieldLink RX12 59 "RecastStageModel" "manAt" "[I", Cond.fieldLink RX12 62 "RecastStageModel" "bestMan" "[I", Cond.fieldLink RX12 65 "RecastStageModel" "bestRow" "[I", Cond.fieldLink RX12 68 "RecastStageModel" "bestParts" "I", Cond.fieldLink RX12 71 "RecastStageModel" "price" "[I", Cond.fieldLink RX12 74 "RecastStageModel" "want" "[I", Cond.fieldLink RX12 77 "RecastStageModel" "asked" "[I", Cond.fieldLink RX12 80 "RecastStageModel" "priceParts" "I", Cond.fieldLink RX12 83 "RecastStageModel" "bookedAt" "[I", Cond.fieldLink RX12 86 "RecastStageModel" "stack" "[I", Cond.arrayClass .boolean, Cond.fieldLink RX12 89 "RecastStageModel" "truths" "[Z", Cond.fieldLink RX12 93 "RecastStageModel" "kept" "[I", Cond.fieldLink RX12 96 "RecastStageModel" "namesKept" "[J", Cond.fieldLink RX12 99 "RecastStageModel" "areKept" "[Z", Cond.constantLong RX12 102 (1885434484), Cond.constantLong RX12 104 (1717658484), Cond.constantLong RX12 106 (109317208502899), Cond.constantLong RX12 108 (7168366), Cond.constantLong RX12 110 (6382452), Cond.constantLong RX12 112 (495588830821), Cond.constantLong RX12 114 (495673374579), Cond.constantLong RX12 116 (474147546227)]
def wsL_law0_r13 : List Cond := [Cond.constantLong RX12 118 (465625113971), Cond.constantLong RX12 120 (474148660594), Cond.constantLong RX12 122 (1718576499), Cond.constantLong RX12 124 (1919251316), Cond.constantLong RX12 126 (24947), Cond.constantLong RX12 128 (33610324346168690), Cond.constantLong RX12 130 (27995157133617518), Cond.constantLong RX12 132 (1650815860), Cond.constantLong RX12 134 (28530), Cond.constantLong RX12 136 (6385252), Cond.constantLong RX12 138 (7237492), Cond.constantLong RX12 140 (482854664563), Cond.constantLong RX12 142 (125780054271332), Cond.constantLong RX12 144 (461414299507), Cond.constantLong RX12 146 (1937076837), Cond.constantLong RX12 148 (495723310188), Cond.constantLong RX12 150 (499984983411), Cond.constantLong RX12 152 (427020087411), Cond.constantLong RX12 154 (121450625394034), Cond.methodLink RL 19 yX11_feed, Cond.instanceMethod yX11_feed, Cond.selects RX11 yX11_feed yX11_feed, Cond.code yX11_feed cX11_feed 6 (some .int), Cond.fieldLink RX11 99 "RecastStage$Reader" "tape" "LRecastStage$Tape;"]
def wsL_law0_r14 : List Cond := [Cond.fieldLink RX11 113 "RecastStage$Tape" "length" "I", Cond.methodLink RX11 103 yX10_hasRoom, Cond.instanceMethod yX10_hasRoom, Cond.selects RX10 yX10_hasRoom yX10_hasRoom, Cond.code yX10_hasRoom cX10_hasRoom 2 (some .boolean), Cond.methodLink RX11 109 yX10_append, Cond.instanceMethod yX10_append, Cond.selects RX10 yX10_append yX10_append, Cond.code yX10_append cX10_append 2 none, Cond.methodLink RX10 19 yX10_hasRoom, Cond.methodLink RL 23 yX12_feed, Cond.instanceMethod yX12_feed, Cond.selects RX12 yX12_feed yX12_feed, Cond.code yX12_feed cX12_feed 6 (some .int), Cond.fieldLink RX12 1 "RecastStageModel" "thrown" "I", Cond.fieldLink RX12 7 "RecastStageModel" "length" "I", Cond.methodLink RX12 10 yX12_four, Cond.instanceMethod yX12_four, Cond.selects RX12 yX12_four yX12_four, Cond.code yX12_four cX12_four 3 none, Cond.methodLink RL 24 yX11_end, Cond.instanceMethod yX11_end, Cond.selects RX11 yX11_end yX11_end, Cond.code yX11_end cX11_end 2 (some .boolean)]
def wsL_law0_r15 : List Cond := [Cond.methodLink RL 28 yX12_end, Cond.instanceMethod yX12_end, Cond.selects RX12 yX12_end yX12_end, Cond.code yX12_end cX12_end 2 (some .boolean), Cond.methodLink RL 29 yX11_play, Cond.instanceMethod yX11_play, Cond.selects RX11 yX11_play yX11_play, Cond.code yX11_play cX11_play 2 (some .int), Cond.fieldLink RX11 123 "RecastStage$Reader" "fault" "I", Cond.fieldLink RX11 126 "RecastStage$Reader" "faultPlace" "I", Cond.fieldLink RX11 129 "RecastStage$PlayReader" "told" "LRecastStage$Play;", Cond.methodLink RX11 116 yX8_open, Cond.instanceMethod yX8_open, Cond.selects RX8 yX8_open yX8_open, Cond.code yX8_open cX8_open 2 none, Cond.methodLink RX8 73 yX8_step, Cond.instanceMethod yX8_step, Cond.selects RX8 yX8_step yX8_step, Cond.code yX8_step cX8_step 2 none, Cond.fieldLink RX8 76 "RecastStage$Tape" "length" "I", Cond.methodLink RX8 78 yX10_byteAt, Cond.instanceMethod yX10_byteAt, Cond.selects RX10 yX10_byteAt yX10_byteAt, Cond.code yX10_byteAt cX10_byteAt 2 (some .int)]
def wsL_law0_r16 : List Cond := [Cond.methodLink RX8 82 yX8_isBlank, Cond.static yX8_isBlank, Cond.code yX8_isBlank cX8_isBlank 1 (some .boolean), Cond.methodLink RX8 86 yX8_isLetter, Cond.static yX8_isLetter, Cond.code yX8_isLetter cX8_isLetter 1 (some .boolean), Cond.methodLink RX8 89 yX8_isDigit, Cond.static yX8_isDigit, Cond.code yX8_isDigit cX8_isDigit 1 (some .boolean), Cond.methodLink RX8 92 yX8_readRun, Cond.instanceMethod yX8_readRun, Cond.selects RX8 yX8_readRun yX8_readRun, Cond.code yX8_readRun cX8_readRun 4 none, Cond.methodLink RX8 98 yX8_indexOf, Cond.static yX8_indexOf, Cond.code yX8_indexOf cX8_indexOf 5 (some .int), Cond.methodLink RX8 95 yX8_isSign, Cond.static yX8_isSign, Cond.code yX8_isSign cX8_isSign 1 (some .boolean), Cond.methodLink RX11 119 yX7_read, Cond.instanceMethod yX7_read, Cond.selects RX7 yX7_read yX7_read, Cond.code yX7_read cX7_read 4 (some .int), Cond.fieldLink RX7 21 "RecastStage$Reader" "kind" "I"]
def wsL_law0_r17 : List Cond := [Cond.methodLink RX7 18 yX6_clear, Cond.instanceMethod yX6_clear, Cond.selects RX6 yX6_clear yX6_clear, Cond.code yX6_clear cX6_clear 1 none, Cond.methodLink RX6 75 yJ7_fill_53178, Cond.methodLink RX7 27 yX7_readLine, Cond.instanceMethod yX7_readLine, Cond.selects RX7 yX7_readLine yX7_readLine, Cond.code yX7_readLine cX7_readLine 2 none, Cond.methodLink RX7 39 yX8_wordHere, Cond.instanceMethod yX8_wordHere, Cond.selects RX8 yX8_wordHere yX8_wordHere, Cond.code yX8_wordHere cX8_wordHere 1 (some .int), Cond.methodLink RX7 43 yX7_readPart, Cond.instanceMethod yX7_readPart, Cond.selects RX7 yX7_readPart yX7_readPart, Cond.code yX7_readPart cX7_readPart 2 none, Cond.fieldLink RX7 100 "RecastStage$Play" "parts" "I", Cond.fieldLink RX7 107 "RecastStage$Play" "partNames" "[J", Cond.fieldLink RX7 115 "RecastStage$Play" "partSkill" "[I", Cond.methodLink RX7 103 yX7_takeOneOf, Cond.static yX7_takeOneOf, Cond.code yX7_takeOneOf cX7_takeOneOf 3 (some .boolean), Cond.methodLink RX7 79 yX8_fail]
def wsL_law0_r18 : List Cond := [Cond.instanceMethod yX8_fail, Cond.selects RX8 yX8_fail yX8_fail, Cond.code yX8_fail cX8_fail 2 none, Cond.methodLink RX7 82 yX8_step, Cond.methodLink RX7 111 yX7_takeNewName, Cond.instanceMethod yX7_takeNewName, Cond.selects RX7 yX7_takeNewName yX7_takeNewName, Cond.code yX7_takeNewName cX7_takeNewName 4 (some .boolean), Cond.fieldLink RX7 88 "RecastStage$Reader" "name" "J", Cond.methodLink RX7 85 yX8_isAtName, Cond.instanceMethod yX8_isAtName, Cond.selects RX8 yX8_isAtName yX8_isAtName, Cond.code yX8_isAtName cX8_isAtName 1 (some .boolean), Cond.methodLink RX7 92 yX6_hasName, Cond.instanceMethod yX6_hasName, Cond.selects RX6 yX6_hasName yX6_hasName, Cond.code yX6_hasName cX6_hasName 3 (some .boolean), Cond.methodLink RX6 87 yX8_indexOf, Cond.methodLink RX7 119 yX8_takeNumber, Cond.instanceMethod yX8_takeNumber, Cond.selects RX8 yX8_takeNumber yX8_takeNumber, Cond.code yX8_takeNumber cX8_takeNumber 4 (some .int), Cond.methodLink RX8 106 yX8_fail, Cond.methodLink RX7 46 yX7_readFact]
def wsL_law0_r19 : List Cond := [Cond.instanceMethod yX7_readFact, Cond.selects RX7 yX7_readFact yX7_readFact, Cond.code yX7_readFact cX7_readFact 2 none, Cond.fieldLink RX7 123 "RecastStage$Play" "facts" "I", Cond.fieldLink RX7 126 "RecastStage$Play" "factNames" "[J", Cond.methodLink RX7 49 yX7_readClears, Cond.instanceMethod yX7_readClears, Cond.selects RX7 yX7_readClears yX7_readClears, Cond.code yX7_readClears cX7_readClears 4 none, Cond.fieldLink RX7 136 "RecastStage$Play" "factClears" "[I", Cond.methodLink RX7 129 yX8_takeName, Cond.instanceMethod yX8_takeName, Cond.selects RX8 yX8_takeName yX8_takeName, Cond.code yX8_takeName cX8_takeName 4 (some .int), Cond.methodLink RX8 110 yX8_nameHere, Cond.instanceMethod yX8_nameHere, Cond.selects RX8 yX8_nameHere yX8_nameHere, Cond.code yX8_nameHere cX8_nameHere 4 (some .int), Cond.methodLink RX8 102 yX8_isAtName, Cond.methodLink RX7 133 yX8_nameHere, Cond.methodLink RX7 139 yX7_takeOnce, Cond.static yX7_takeOnce, Cond.code yX7_takeOnce cX7_takeOnce 3 (some .int), Cond.static yX11_has]
def wsL_law0_r20 : List Cond := [Cond.code yX11_has cX11_has 2 (some .boolean), Cond.methodLink RX7 52 yX7_readMan, Cond.instanceMethod yX7_readMan, Cond.selects RX7 yX7_readMan yX7_readMan, Cond.code yX7_readMan cX7_readMan 2 none, Cond.fieldLink RX7 143 "RecastStage$Play" "men" "I", Cond.fieldLink RX7 146 "RecastStage$Play" "manNames" "[J", Cond.fieldLink RX7 149 "RecastStage$Play" "manSkill" "[I", Cond.fieldLink RX7 152 "RecastStage$Play" "manSeat" "[I", Cond.methodLink RX7 31 yX8_isFine, Cond.instanceMethod yX8_isFine, Cond.selects RX8 yX8_isFine yX8_isFine, Cond.code yX8_isFine cX8_isFine 1 (some .boolean), Cond.methodLink RX7 55 yX7_readAct, Cond.instanceMethod yX7_readAct, Cond.selects RX7 yX7_readAct yX7_readAct, Cond.code yX7_readAct cX7_readAct 2 none, Cond.fieldLink RX7 155 "RecastStage$Play" "acts" "I", Cond.methodLink RX7 58 yX7_readScene, Cond.instanceMethod yX7_readScene, Cond.selects RX7 yX7_readScene yX7_readScene, Cond.code yX7_readScene cX7_readScene 5 none, Cond.fieldLink RX7 158 "RecastStage$Play" "scenes" "I", Cond.fieldLink RX7 161 "RecastStage$Play" "sceneAct" "[I"]
def wsL_law0_r21 : List Cond := [Cond.fieldLink RX7 168 "RecastStage$Play" "sceneParts" "[I", Cond.methodLink RX7 164 yX8_isAtSign, Cond.instanceMethod yX8_isAtSign, Cond.selects RX8 yX8_isAtSign yX8_isAtSign, Cond.code yX8_isAtSign cX8_isAtSign 2 (some .boolean), Cond.methodLink RX7 61 yX7_readShows, Cond.instanceMethod yX7_readShows, Cond.selects RX7 yX7_readShows yX7_readShows, Cond.code yX7_readShows cX7_readShows 4 none, Cond.fieldLink RX7 171 "RecastStage$Play" "sceneFacts" "[I", Cond.methodLink RX7 64 yX7_readNeeds, Cond.instanceMethod yX7_readNeeds, Cond.selects RX7 yX7_readNeeds yX7_readNeeds, Cond.code yX7_readNeeds cX7_readNeeds 4 none, Cond.fieldLink RX7 174 "RecastStage$Play" "partNeeds" "[I", Cond.methodLink RX7 67 yX7_readLikes, Cond.instanceMethod yX7_readLikes, Cond.selects RX7 yX7_readLikes yX7_readLikes, Cond.code yX7_readLikes cX7_readLikes 4 none, Cond.fieldLink RX7 180 "RecastStage$Play" "likes" "[I", Cond.methodLink RX7 177 yX6_liking, Cond.instanceMethod yX6_liking, Cond.selects RX6 yX6_liking yX6_liking, Cond.code yX6_liking cX6_liking 3 (some .int)]
def wsL_law0_r22 : List Cond := [Cond.methodLink RX7 70 yX7_readNever, Cond.instanceMethod yX7_readNever, Cond.selects RX7 yX7_readNever yX7_readNever, Cond.code yX7_readNever cX7_readNever 4 none, Cond.fieldLink RX7 183 "RecastStage$Play" "manNever" "[I", Cond.methodLink RX7 73 yX7_readFoes, Cond.instanceMethod yX7_readFoes, Cond.selects RX7 yX7_readFoes yX7_readFoes, Cond.code yX7_readFoes cX7_readFoes 4 none, Cond.fieldLink RX7 186 "RecastStage$Play" "manFoes" "[I", Cond.methodLink RX7 76 yX7_readRest, Cond.instanceMethod yX7_readRest, Cond.selects RX7 yX7_readRest yX7_readRest, Cond.code yX7_readRest cX7_readRest 2 none, Cond.fieldLink RX7 189 "RecastStage$Play" "rest" "Z", Cond.methodLink RX7 35 yX8_takeSign, Cond.instanceMethod yX8_takeSign, Cond.selects RX8 yX8_takeSign yX8_takeSign, Cond.code yX8_takeSign cX8_takeSign 2 none, Cond.methodLink RX8 114 yX8_isAtSign, Cond.methodLink RX11 132 yX6_copyFrom, Cond.instanceMethod yX6_copyFrom, Cond.selects RX6 yX6_copyFrom yX6_copyFrom, Cond.code yX6_copyFrom cX6_copyFrom 2 none]
def wsL_law0_r23 : List Cond := [Cond.methodLink RX6 81 arraycopyName, Cond.native arraycopyName, Cond.static arraycopyName, Cond.initialized "java/lang/System", Cond.methodLink RX11 136 yX2_begin, Cond.instanceMethod yX2_begin, Cond.selects RX2 yX2_begin yX2_begin, Cond.code yX2_begin cX2_begin 1 none, Cond.methodLink RX11 139 yX9_clear, Cond.instanceMethod yX9_clear, Cond.selects RX9 yX9_clear yX9_clear, Cond.code yX9_clear cX9_clear 1 none, Cond.methodLink RX11 142 yX3_forget, Cond.instanceMethod yX3_forget, Cond.selects RX3 yX3_forget yX3_forget, Cond.code yX3_forget cX3_forget 1 none, Cond.methodLink RL 33 yX12_play, Cond.instanceMethod yX12_play, Cond.selects RX12 yX12_play yX12_play, Cond.code yX12_play cX12_play 2 (some .int), Cond.fieldLink RX12 183 "RecastStageModel" "fault" "I", Cond.fieldLink RX12 245 "RecastStageModel" "lines" "I", Cond.fieldLink RX12 166 "RecastStageModel" "token" "I", Cond.fieldLink RX12 186 "RecastStageModel" "faultAt" "I"]
def wsL_law0_r24 : List Cond := [Cond.fieldLink RX12 254 "RecastStageModel" "undoMany" "I", Cond.methodLink RX12 242 yX12_taken, Cond.instanceMethod yX12_taken, Cond.selects RX12 yX12_taken yX12_taken, Cond.code yX12_taken cX12_taken 2 none, Cond.fieldLink RX12 18 "RecastStageModel" "size" "I", Cond.fieldLink RX12 21 "RecastStageModel" "p" "I", Cond.fieldLink RX12 24 "RecastStageModel" "limit" "I", Cond.methodLink RX12 195 yX12_go, Cond.instanceMethod yX12_go, Cond.selects RX12 yX12_go yX12_go, Cond.code yX12_go cX12_go 4 none, Cond.fieldLink RX12 160 "RecastStageModel" "at" "I", Cond.fieldLink RX12 163 "RecastStageModel" "span" "I", Cond.fieldLink RX12 176 "RecastStageModel" "number" "I", Cond.fieldLink RX12 179 "RecastStageModel" "word" "J", Cond.methodLink RX12 156 yX12_peek, Cond.instanceMethod yX12_peek, Cond.selects RX12 yX12_peek yX12_peek, Cond.code yX12_peek cX12_peek 1 (some .int), Cond.methodLink RX12 169 yX12_isSmall, Cond.static yX12_isSmall, Cond.code yX12_isSmall cX12_isSmall 1 (some .boolean), Cond.methodLink RX12 173 yX12_isDigit]
def wsL_law0_r25 : List Cond := [Cond.static yX12_isDigit, Cond.code yX12_isDigit cX12_isDigit 1 (some .boolean), Cond.methodLink RX12 248 yX12_line, Cond.instanceMethod yX12_line, Cond.selects RX12 yX12_line yX12_line, Cond.code yX12_line cX12_line 2 (some .boolean), Cond.fieldLink RX12 202 "RecastStageModel" "got" "I", Cond.methodLink RX12 220 yX12_isWord, Cond.instanceMethod yX12_isWord, Cond.selects RX12 yX12_isWord yX12_isWord, Cond.code yX12_isWord cX12_isWord 3 (some .boolean), Cond.methodLink RX12 192 yX12_bad, Cond.instanceMethod yX12_bad, Cond.selects RX12 yX12_bad yX12_bad, Cond.code yX12_bad cX12_bad 2 (some .boolean), Cond.methodLink RX12 224 yX12_fresh, Cond.instanceMethod yX12_fresh, Cond.selects RX12 yX12_fresh yX12_fresh, Cond.code yX12_fresh cX12_fresh 2 (some .boolean), Cond.methodLink RX12 205 yX12_isName, Cond.instanceMethod yX12_isName, Cond.selects RX12 yX12_isName yX12_isName, Cond.code yX12_isName cX12_isName 3 (some .boolean), Cond.methodLink RX12 209 yX12_find]
def wsL_law0_r26 : List Cond := [Cond.instanceMethod yX12_find, Cond.selects RX12 yX12_find yX12_find, Cond.code yX12_find cX12_find 4 (some .int), Cond.methodLink RX12 227 yX12_takes, Cond.instanceMethod yX12_takes, Cond.selects RX12 yX12_takes yX12_takes, Cond.code yX12_takes cX12_takes 3 (some .boolean), Cond.methodLink RX12 198 yX12_isIn, Cond.static yX12_isIn, Cond.code yX12_isIn cX12_isIn 3 (some .boolean), Cond.methodLink RX12 230 yX12_readScene, Cond.instanceMethod yX12_readScene, Cond.selects RX12 yX12_readScene yX12_readScene, Cond.code yX12_readScene cX12_readScene 2 (some .boolean), Cond.methodLink RX12 189 yX12_isSign, Cond.instanceMethod yX12_isSign, Cond.selects RX12 yX12_isSign yX12_isSign, Cond.code yX12_isSign cX12_isSign 2 (some .boolean), Cond.methodLink RX12 213 yX12_looksAt, Cond.instanceMethod yX12_looksAt, Cond.selects RX12 yX12_looksAt yX12_looksAt, Cond.code yX12_looksAt cX12_looksAt 3 (some .boolean), Cond.methodLink RX12 233 yX12_sets, Cond.instanceMethod yX12_sets]
def wsL_law0_r27 : List Cond := [Cond.selects RX12 yX12_sets yX12_sets, Cond.code yX12_sets cX12_sets 2 (some .boolean), Cond.methodLink RX12 217 yX12_bitOf, Cond.static yX12_bitOf, Cond.code yX12_bitOf cX12_bitOf 2 (some .boolean), Cond.methodLink RX12 236 yX12_pairs, Cond.instanceMethod yX12_pairs, Cond.selects RX12 yX12_pairs yX12_pairs, Cond.code yX12_pairs cX12_pairs 4 (some .boolean), Cond.methodLink RX12 239 yX12_takesName, Cond.instanceMethod yX12_takesName, Cond.selects RX12 yX12_takesName yX12_takesName, Cond.code yX12_takesName cX12_takesName 3 (some .boolean), Cond.methodLink RX12 251 yX12_sign, Cond.instanceMethod yX12_sign, Cond.selects RX12 yX12_sign yX12_sign, Cond.code yX12_sign cX12_sign 2 (some .boolean), Cond.methodLink RL 34 yX11_fault, Cond.instanceMethod yX11_fault, Cond.selects RX11 yX11_fault yX11_fault, Cond.code yX11_fault cX11_fault 1 (some .int), Cond.methodLink RL 37 yX12_fault, Cond.instanceMethod yX12_fault, Cond.selects RX12 yX12_fault yX12_fault]
def wsL_law0_r28 : List Cond := [Cond.code yX12_fault cX12_fault 1 (some .int), Cond.methodLink RL 38 yX11_part, Cond.instanceMethod yX11_part, Cond.selects RX11 yX11_part yX11_part, Cond.code yX11_part cX11_part 3 (some .int), Cond.fieldLink RX11 148 "RecastStage$Play" "partSkill" "[I", Cond.fieldLink RX11 151 "RecastStage$Play" "partNeeds" "[I", Cond.fieldLink RX11 154 "RecastStage$Evening" "manAs" "[I", Cond.fieldLink RX11 157 "RecastStage$Evening" "lastAs" "[I", Cond.methodLink RX11 145 yX6_hasPart, Cond.instanceMethod yX6_hasPart, Cond.selects RX6 yX6_hasPart yX6_hasPart, Cond.code yX6_hasPart cX6_hasPart 2 (some .boolean), Cond.methodLink RX11 160 yX6_actsWith, Cond.instanceMethod yX6_actsWith, Cond.selects RX6 yX6_actsWith yX6_actsWith, Cond.code yX6_actsWith cX6_actsWith 4 (some .int), Cond.methodLink RL 41 yX12_part, Cond.instanceMethod yX12_part, Cond.selects RX12 yX12_part yX12_part, Cond.code yX12_part cX12_part 5 (some .int), Cond.methodLink RX12 257 yX12_isPart, Cond.instanceMethod yX12_isPart, Cond.selects RX12 yX12_isPart yX12_isPart]
def wsL_law0_r29 : List Cond := [Cond.code yX12_isPart cX12_isPart 2 (some .boolean), Cond.methodLink RX12 260 yX12_partsOf, Cond.instanceMethod yX12_partsOf, Cond.selects RX12 yX12_partsOf yX12_partsOf, Cond.code yX12_partsOf cX12_partsOf 4 (some .int), Cond.methodLink RX12 264 yX12_castAs, Cond.instanceMethod yX12_castAs, Cond.selects RX12 yX12_castAs yX12_castAs, Cond.code yX12_castAs cX12_castAs 3 (some .int), Cond.methodLink RL 42 yL_man, Cond.static yL_man, Cond.initialized RL, Cond.codeWith yL_man cL_man 5 (some .int) [(0, 10, 13, 13)], Cond.classLink RL 13 "java/util/NoSuchElementException", Cond.methodLink RL 7 yX11_man, Cond.instanceMethod yX11_man, Cond.selects RX11 yX11_man yX11_man, Cond.code yX11_man cX11_man 3 (some .int), Cond.classLink RX11 167 "java/util/NoSuchElementException", Cond.initialized "java/util/NoSuchElementException", Cond.fieldLink RX11 170 "RecastStage$Play" "manSkill" "[I", Cond.fieldLink RX11 173 "RecastStage$Play" "manSeat" "[I", Cond.fieldLink RX11 179 "RecastStage$Evening" "known" "[I", Cond.fieldLink RX11 182 "RecastStage$Evening" "times" "[I"]
def wsL_law0_r30 : List Cond := [Cond.fieldLink RX11 185 "RecastStage$Evening" "clapsFor" "[I", Cond.fieldLink RX11 188 "RecastStage$Evening" "ahead" "I", Cond.fieldLink RX11 195 "RecastStage$Evening" "ill" "I", Cond.methodLink RX11 164 yX6_hasMan, Cond.instanceMethod yX6_hasMan, Cond.selects RX6 yX6_hasMan yX6_hasMan, Cond.code yX6_hasMan cX6_hasMan 2 (some .boolean), Cond.methodLink RX11 176 yX2_partOf, Cond.instanceMethod yX2_partOf, Cond.selects RX2 yX2_partOf yX2_partOf, Cond.code yX2_partOf cX2_partOf 3 (some .int), Cond.methodLink RX11 191 yX11_has, Cond.methodLink RL 47 yX12_man, Cond.instanceMethod yX12_man, Cond.selects RX12 yX12_man yX12_man, Cond.code yX12_man cX12_man 3 (some .int), Cond.methodLink RX12 267 yX12_isMan, Cond.instanceMethod yX12_isMan, Cond.selects RX12 yX12_isMan yX12_isMan, Cond.code yX12_isMan cX12_isMan 2 (some .boolean), Cond.methodLink RX12 270 yX12_throwsIf, Cond.instanceMethod yX12_throwsIf, Cond.selects RX12 yX12_throwsIf yX12_throwsIf, Cond.code yX12_throwsIf cX12_throwsIf 2 (some .boolean)]
def wsL_law0_r31 : List Cond := [Cond.methodLink RL 48 yX11_act, Cond.instanceMethod yX11_act, Cond.selects RX11 yX11_act yX11_act, Cond.code yX11_act cX11_act 3 (some .int), Cond.fieldLink RX11 198 "RecastStage$Play" "acts" "I", Cond.methodLink RX11 201 yX6_scenesOf, Cond.instanceMethod yX6_scenesOf, Cond.selects RX6 yX6_scenesOf yX6_scenesOf, Cond.code yX6_scenesOf cX6_scenesOf 4 (some .int), Cond.methodLink RX11 204 yX6_partsOf, Cond.instanceMethod yX6_partsOf, Cond.selects RX6 yX6_partsOf yX6_partsOf, Cond.code yX6_partsOf cX6_partsOf 4 (some .int), Cond.methodLink RX11 207 yX6_factsOf, Cond.instanceMethod yX6_factsOf, Cond.selects RX6 yX6_factsOf yX6_factsOf, Cond.code yX6_factsOf cX6_factsOf 4 (some .int), Cond.methodLink RL 51 yX12_act, Cond.instanceMethod yX12_act, Cond.selects RX12 yX12_act yX12_act, Cond.code yX12_act cX12_act 5 (some .int), Cond.methodLink RX12 274 yX12_factsOf, Cond.instanceMethod yX12_factsOf, Cond.selects RX12 yX12_factsOf yX12_factsOf]
def wsL_law0_r32 : List Cond := [Cond.code yX12_factsOf cX12_factsOf 4 (some .int), Cond.methodLink RL 52 yX11_scene, Cond.instanceMethod yX11_scene, Cond.selects RX11 yX11_scene yX11_scene, Cond.code yX11_scene cX11_scene 3 (some .int), Cond.fieldLink RX11 210 "RecastStage$Play" "scenes" "I", Cond.fieldLink RX11 213 "RecastStage$Play" "sceneAct" "[I", Cond.fieldLink RX11 216 "RecastStage$Play" "sceneParts" "[I", Cond.fieldLink RX11 219 "RecastStage$Play" "sceneFacts" "[I", Cond.methodLink RL 55 yX12_scene, Cond.instanceMethod yX12_scene, Cond.selects RX12 yX12_scene yX12_scene, Cond.code yX12_scene cX12_scene 3 (some .int), Cond.methodLink RL 56 yX11_now, Cond.instanceMethod yX11_now, Cond.selects RX11 yX11_now yX11_now, Cond.code yX11_now cX11_now 2 (some .int), Cond.fieldLink RX11 222 "RecastStage$Evening" "next" "I", Cond.fieldLink RX11 225 "RecastStage$Evening" "joySoFar" "I", Cond.fieldLink RX11 228 "RecastStage$Evening" "lossSoFar" "I", Cond.fieldLink RX11 235 "RecastStage$Evening" "whispered" "I", Cond.fieldLink RX11 238 "RecastStage$Evening" "money" "I", Cond.fieldLink RX11 241 "RecastStage$Evening" "clapsSoFar" "I", Cond.methodLink RX11 231 yX2_menOn]
def wsL_law0_r33 : List Cond := [Cond.instanceMethod yX2_menOn, Cond.selects RX2 yX2_menOn yX2_menOn, Cond.code yX2_menOn cX2_menOn 3 (some .int), Cond.methodLink RL 60 yX12_now, Cond.instanceMethod yX12_now, Cond.selects RX12 yX12_now yX12_now, Cond.code yX12_now cX12_now 2 (some .int), Cond.methodLink RX12 277 yX12_castNow, Cond.instanceMethod yX12_castNow, Cond.selects RX12 yX12_castNow yX12_castNow, Cond.code yX12_castNow cX12_castNow 3 (some .int), Cond.methodLink RL 61 yX11_why, Cond.instanceMethod yX11_why, Cond.selects RX11 yX11_why yX11_why, Cond.code yX11_why cX11_why 3 (some .int), Cond.methodLink RX11 244 yX2_whyNot, Cond.instanceMethod yX2_whyNot, Cond.selects RX2 yX2_whyNot yX2_whyNot, Cond.code yX2_whyNot cX2_whyNot 5 (some .int), Cond.methodLink RX2 69 yX2_whyUnfit, Cond.instanceMethod yX2_whyUnfit, Cond.selects RX2 yX2_whyUnfit yX2_whyUnfit, Cond.code yX2_whyUnfit cX2_whyUnfit 4 (some .int), Cond.fieldLink RX2 95 "RecastStage$Play" "manNever" "[I"]
def wsL_law0_r34 : List Cond := [Cond.fieldLink RX2 98 "RecastStage$Play" "manSkill" "[I", Cond.fieldLink RX2 101 "RecastStage$Play" "partSkill" "[I", Cond.fieldLink RX2 104 "RecastStage$Play" "rest" "Z", Cond.methodLink RX2 88 yX2_isOver, Cond.instanceMethod yX2_isOver, Cond.selects RX2 yX2_isOver yX2_isOver, Cond.code yX2_isOver cX2_isOver 2 (some .boolean), Cond.fieldLink RX2 64 "RecastStage$Play" "acts" "I", Cond.methodLink RX2 92 yX6_partsOf, Cond.methodLink RX2 108 yX2_unknownTo, Cond.instanceMethod yX2_unknownTo, Cond.selects RX2 yX2_unknownTo yX2_unknownTo, Cond.code yX2_unknownTo cX2_unknownTo 4 (some .int), Cond.fieldLink RX2 111 "RecastStage$Play" "partNeeds" "[I", Cond.methodLink RX2 73 yX2_partOf, Cond.methodLink RX2 77 yX2_meetsFoe, Cond.instanceMethod yX2_meetsFoe, Cond.selects RX2 yX2_meetsFoe yX2_meetsFoe, Cond.code yX2_meetsFoe cX2_meetsFoe 6 (some .boolean), Cond.fieldLink RX2 118 "RecastStage$Play" "parts" "I", Cond.fieldLink RX2 121 "RecastStage$Play" "manFoes" "[I", Cond.methodLink RX2 114 yX6_partsBeside, Cond.instanceMethod yX6_partsBeside, Cond.selects RX6 yX6_partsBeside yX6_partsBeside]
def wsL_law0_r35 : List Cond := [Cond.code yX6_partsBeside cX6_partsBeside 5 (some .int), Cond.methodLink RL 64 yX12_why, Cond.instanceMethod yX12_why, Cond.selects RX12 yX12_why yX12_why, Cond.code yX12_why cX12_why 3 (some .int), Cond.methodLink RX12 292 yX12_whyOf, Cond.instanceMethod yX12_whyOf, Cond.selects RX12 yX12_whyOf yX12_whyOf, Cond.code yX12_whyOf cX12_whyOf 5 (some .int), Cond.methodLink RX12 283 yX12_whyAlone, Cond.instanceMethod yX12_whyAlone, Cond.selects RX12 yX12_whyAlone yX12_whyAlone, Cond.code yX12_whyAlone cX12_whyAlone 3 (some .int), Cond.methodLink RX12 280 yX12_isOver, Cond.instanceMethod yX12_isOver, Cond.selects RX12 yX12_isOver yX12_isOver, Cond.code yX12_isOver cX12_isOver 1 (some .boolean), Cond.methodLink RX12 286 yX12_lacking, Cond.instanceMethod yX12_lacking, Cond.selects RX12 yX12_lacking yX12_lacking, Cond.code yX12_lacking cX12_lacking 3 (some .int), Cond.methodLink RX12 289 yX12_areTogether, Cond.instanceMethod yX12_areTogether, Cond.selects RX12 yX12_areTogether yX12_areTogether]
def wsL_law0_r36 : List Cond := [Cond.code yX12_areTogether cX12_areTogether 4 (some .boolean), Cond.methodLink RL 65 yX11_cast, Cond.instanceMethod yX11_cast, Cond.selects RX11 yX11_cast yX11_cast, Cond.code yX11_cast cX11_cast 4 (some .int), Cond.methodLink RX11 248 yX3_keep, Cond.instanceMethod yX3_keep, Cond.selects RX3 yX3_keep yX3_keep, Cond.code yX3_keep cX3_keep 2 none, Cond.methodLink RX3 25 yX2_copyFrom, Cond.instanceMethod yX2_copyFrom, Cond.selects RX2 yX2_copyFrom yX2_copyFrom, Cond.code yX2_copyFrom cX2_copyFrom 2 none, Cond.methodLink RX2 58 arraycopyName, Cond.methodLink RL 68 yX12_cast, Cond.instanceMethod yX12_cast, Cond.selects RX12 yX12_cast yX12_cast, Cond.code yX12_cast cX12_cast 4 (some .int), Cond.methodLink RX12 295 yX12_keep, Cond.instanceMethod yX12_keep, Cond.selects RX12 yX12_keep yX12_keep, Cond.code yX12_keep cX12_keep 2 none, Cond.methodLink RL 69 yX11_drop, Cond.instanceMethod yX11_drop]
def wsL_law0_r37 : List Cond := [Cond.selects RX11 yX11_drop yX11_drop, Cond.code yX11_drop cX11_drop 3 (some .int), Cond.methodLink RL 72 yX12_drop, Cond.instanceMethod yX12_drop, Cond.selects RX12 yX12_drop yX12_drop, Cond.code yX12_drop cX12_drop 3 (some .int), Cond.methodLink RL 73 yX11_curtain, Cond.instanceMethod yX11_curtain, Cond.selects RX11 yX11_curtain yX11_curtain, Cond.code yX11_curtain cX11_curtain 1 (some .int), Cond.methodLink RX11 252 yX2_canEndAct, Cond.instanceMethod yX2_canEndAct, Cond.selects RX2 yX2_canEndAct yX2_canEndAct, Cond.code yX2_canEndAct cX2_canEndAct 4 (some .boolean), Cond.methodLink RX11 256 yX2_endAct, Cond.instanceMethod yX2_endAct, Cond.selects RX2 yX2_endAct yX2_endAct, Cond.code yX2_endAct cX2_endAct 4 none, Cond.fieldLink RX2 124 "RecastStage$Play" "men" "I", Cond.fieldLink RX2 135 "RecastStage$Play" "manSeat" "[I", Cond.methodLink RX2 131 yX2_menOn, Cond.methodLink RX2 138 yX2_clap, Cond.instanceMethod yX2_clap, Cond.selects RX2 yX2_clap yX2_clap]
def wsL_law0_r38 : List Cond := [Cond.code yX2_clap cX2_clap 6 none, Cond.methodLink RX2 145 yX6_liking, Cond.methodLink RX2 142 yX2_learn, Cond.instanceMethod yX2_learn, Cond.selects RX2 yX2_learn yX2_learn, Cond.code yX2_learn cX2_learn 5 none, Cond.fieldLink RX2 159 "RecastStage$Play" "scenes" "I", Cond.fieldLink RX2 162 "RecastStage$Play" "sceneAct" "[I", Cond.fieldLink RX2 165 "RecastStage$Play" "sceneParts" "[I", Cond.fieldLink RX2 168 "RecastStage$Play" "sceneFacts" "[I", Cond.methodLink RX2 148 yX2_lossBy, Cond.instanceMethod yX2_lossBy, Cond.selects RX2 yX2_lossBy yX2_lossBy, Cond.code yX2_lossBy cX2_lossBy 4 (some .int), Cond.methodLink RX2 154 Lib.Math.abs.name, Cond.static Lib.Math.abs.name, Cond.initialized "java/lang/Math", Cond.code Lib.Math.abs.name Lib.Math.abs.code 1 (some .int), Cond.methodLink RX2 151 yX2_sendOff, Cond.instanceMethod yX2_sendOff, Cond.selects RX2 yX2_sendOff yX2_sendOff, Cond.code yX2_sendOff cX2_sendOff 1 none, Cond.methodLink RL 76 yX12_curtain, Cond.instanceMethod yX12_curtain]
def wsL_law0_r39 : List Cond := [Cond.selects RX12 yX12_curtain yX12_curtain, Cond.code yX12_curtain cX12_curtain 1 (some .int), Cond.methodLink RX12 311 yX12_canRise, Cond.instanceMethod yX12_canRise, Cond.selects RX12 yX12_canRise yX12_canRise, Cond.code yX12_canRise cX12_canRise 3 (some .boolean), Cond.methodLink RX12 314 yX12_rises, Cond.instanceMethod yX12_rises, Cond.selects RX12 yX12_rises yX12_rises, Cond.code yX12_rises cX12_rises 3 none, Cond.methodLink RX12 301 yX12_clapsFor, Cond.instanceMethod yX12_clapsFor, Cond.selects RX12 yX12_clapsFor yX12_clapsFor, Cond.code yX12_clapsFor cX12_clapsFor 4 (some .int), Cond.methodLink RX12 304 yX12_plays, Cond.instanceMethod yX12_plays, Cond.selects RX12 yX12_plays yX12_plays, Cond.code yX12_plays cX12_plays 5 none, Cond.methodLink RX12 298 yX12_off, Cond.static yX12_off, Cond.code yX12_off cX12_off 2 (some .int), Cond.methodLink RX12 308 yX12_drops, Cond.instanceMethod yX12_drops, Cond.selects RX12 yX12_drops yX12_drops]
def wsL_law0_r40 : List Cond := [Cond.code yX12_drops cX12_drops 2 none, Cond.methodLink RL 77 yX11_whisper, Cond.instanceMethod yX11_whisper, Cond.selects RX11 yX11_whisper yX11_whisper, Cond.code yX11_whisper cX11_whisper 3 (some .boolean), Cond.methodLink RX11 259 yX6_hasFact, Cond.instanceMethod yX6_hasFact, Cond.selects RX6 yX6_hasFact yX6_hasFact, Cond.code yX6_hasFact cX6_hasFact 2 (some .boolean), Cond.methodLink RX11 262 yX2_canTell, Cond.instanceMethod yX2_canTell, Cond.selects RX2 yX2_canTell yX2_canTell, Cond.code yX2_canTell cX2_canTell 4 (some .boolean), Cond.methodLink RX11 266 yX2_tell, Cond.instanceMethod yX2_tell, Cond.selects RX2 yX2_tell yX2_tell, Cond.code yX2_tell cX2_tell 3 none, Cond.methodLink RL 81 yX12_whisper, Cond.instanceMethod yX12_whisper, Cond.selects RX12 yX12_whisper yX12_whisper, Cond.code yX12_whisper cX12_whisper 3 (some .boolean), Cond.methodLink RX12 317 yX12_canWhisper, Cond.instanceMethod yX12_canWhisper, Cond.selects RX12 yX12_canWhisper yX12_canWhisper]
def wsL_law0_r41 : List Cond := [Cond.code yX12_canWhisper cX12_canWhisper 3 (some .boolean), Cond.methodLink RX12 320 yX12_whispers, Cond.instanceMethod yX12_whispers, Cond.selects RX12 yX12_whispers yX12_whispers, Cond.code yX12_whispers cX12_whispers 3 none, Cond.methodLink RL 82 yX11_undo, Cond.instanceMethod yX11_undo, Cond.selects RX11 yX11_undo yX11_undo, Cond.code yX11_undo cX11_undo 1 (some .int), Cond.fieldLink RX11 274 "RecastStage$History" "kept" "I", Cond.methodLink RX11 270 yX3_takeBack, Cond.instanceMethod yX3_takeBack, Cond.selects RX3 yX3_takeBack yX3_takeBack, Cond.code yX3_takeBack cX3_takeBack 2 (some .boolean), Cond.methodLink RL 85 yX12_undo, Cond.instanceMethod yX12_undo, Cond.selects RX12 yX12_undo yX12_undo, Cond.code yX12_undo cX12_undo 2 (some .int), Cond.methodLink RL 86 yX11_best, Cond.instanceMethod yX11_best, Cond.selects RX11 yX11_best yX11_best, Cond.code yX11_best cX11_best 1 (some .int), Cond.methodLink RX11 277 yX1_findBest, Cond.instanceMethod yX1_findBest]
def wsL_law0_r42 : List Cond := [Cond.selects RX1 yX1_findBest yX1_findBest, Cond.code yX1_findBest cX1_findBest 5 (some .boolean), Cond.fieldLink RX1 53 "RecastStage$Play" "men" "I", Cond.methodLink RX1 100 yX1_prepare, Cond.instanceMethod yX1_prepare, Cond.selects RX1 yX1_prepare yX1_prepare, Cond.code yX1_prepare cX1_prepare 6 (some .boolean), Cond.fieldLink RX1 56 "RecastStage$Play" "manFoes" "[I", Cond.methodLink RX1 59 arraycopyName, Cond.fieldLink RX1 71 "RecastStage$Evening" "next" "I", Cond.fieldLink RX1 78 "RecastStage$Play" "parts" "I", Cond.methodLink RX1 65 yX2_isOver, Cond.methodLink RX1 74 yX6_partsOf, Cond.methodLink RX1 85 yX1_ableMen, Cond.static yX1_ableMen, Cond.code yX1_ableMen cX1_ableMen 8 (some .int), Cond.fieldLink RX1 97 "RecastStage$Evening" "ill" "I", Cond.methodLink RX1 93 yX2_whyUnfit, Cond.methodLink RX1 89 yX6_partsBeside, Cond.methodLink RX1 104 yX6_liking, Cond.methodLink RX1 107 yX1_findCheapest, Cond.instanceMethod yX1_findCheapest, Cond.selects RX1 yX1_findCheapest yX1_findCheapest, Cond.code yX1_findCheapest cX1_findCheapest 2 (some .boolean)]
def wsL_law0_r43 : List Cond := [Cond.methodLink RX1 128 yX1_cheapestAt, Cond.instanceMethod yX1_cheapestAt, Cond.selects RX1 yX1_cheapestAt yX1_cheapestAt, Cond.code yX1_cheapestAt cX1_cheapestAt 4 (some .int), Cond.constant RX1 135 (2000000), Cond.methodLink RX1 136 Lib.Math.min.name, Cond.static Lib.Math.min.name, Cond.code Lib.Math.min.name Lib.Math.min.code 2 (some .int), Cond.methodLink RX1 131 yX1_seekCheapest, Cond.instanceMethod yX1_seekCheapest, Cond.selects RX1 yX1_seekCheapest yX1_seekCheapest, Cond.code yX1_seekCheapest cX1_seekCheapest 6 none, Cond.methodLink RX1 141 yX1_freeMen, Cond.instanceMethod yX1_freeMen, Cond.selects RX1 yX1_freeMen yX1_freeMen, Cond.code yX1_freeMen cX1_freeMen 5 (some .int), Cond.methodLink RX11 281 yX1_castInto, Cond.instanceMethod yX1_castInto, Cond.selects RX1 yX1_castInto yX1_castInto, Cond.code yX1_castInto cX1_castInto 3 none, Cond.methodLink RX1 111 yJ7_fill_53178, Cond.methodLink RX11 285 yX1_joyOfBest, Cond.instanceMethod yX1_joyOfBest, Cond.selects RX1 yX1_joyOfBest yX1_joyOfBest]
def wsL_law0_r44 : List Cond := [Cond.code yX1_joyOfBest cX1_joyOfBest 1 (some .int), Cond.methodLink RL 89 yX12_best, Cond.instanceMethod yX12_best, Cond.selects RX12 yX12_best yX12_best, Cond.code yX12_best cX12_best 2 (some .int), Cond.fieldLink RX12 329 "RecastStageModel" "castMany" "I", Cond.fieldLink RX12 344 "RecastStageModel" "bestJoy" "I", Cond.methodLink RX12 354 yX12_castsBy, Cond.instanceMethod yX12_castsBy, Cond.selects RX12 yX12_castsBy yX12_castsBy, Cond.code yX12_castsBy cX12_castsBy 5 none, Cond.fieldLink RX12 341 "RecastStageModel" "bowedMany" "I", Cond.methodLink RX12 347 yX12_counts, Cond.instanceMethod yX12_counts, Cond.selects RX12 yX12_counts yX12_counts, Cond.code yX12_counts cX12_counts 10 none, Cond.fieldLink RX12 332 "RecastStageModel" "fewest" "I", Cond.fieldLink RX12 335 "RecastStageModel" "leastLoss" "I", Cond.fieldLink RX12 338 "RecastStageModel" "inAll" "I", Cond.methodLink RX12 326 yX12_bits, Cond.static yX12_bits, Cond.code yX12_bits cX12_bits 3 (some .int), Cond.methodLink RX12 350 yX12_fits, Cond.instanceMethod yX12_fits]
def wsL_law0_r45 : List Cond := [Cond.selects RX12 yX12_fits yX12_fits, Cond.code yX12_fits cX12_fits 5 (some .boolean), Cond.methodLink RX12 323 yX12_canAlone, Cond.instanceMethod yX12_canAlone, Cond.selects RX12 yX12_canAlone yX12_canAlone, Cond.code yX12_canAlone cX12_canAlone 3 (some .boolean), Cond.methodLink RL 90 yX11_bestAs, Cond.instanceMethod yX11_bestAs, Cond.selects RX11 yX11_bestAs yX11_bestAs, Cond.code yX11_bestAs cX11_bestAs 2 (some .int), Cond.methodLink RL 93 yX12_bestAs, Cond.instanceMethod yX12_bestAs, Cond.selects RX12 yX12_bestAs yX12_bestAs, Cond.code yX12_bestAs cX12_bestAs 2 (some .int), Cond.methodLink RL 94 yX11_casts, Cond.instanceMethod yX11_casts, Cond.selects RX11 yX11_casts yX11_casts, Cond.code yX11_casts cX11_casts 1 (some .int), Cond.methodLink RX11 288 yX6_allMen, Cond.instanceMethod yX6_allMen, Cond.selects RX6 yX6_allMen yX6_allMen, Cond.code yX6_allMen cX6_allMen 1 (some .int), Cond.methodLink RX11 291 yX1_countBy, Cond.instanceMethod yX1_countBy]
def wsL_law0_r46 : List Cond := [Cond.selects RX1 yX1_countBy yX1_countBy, Cond.code yX1_countBy cX1_countBy 5 (some .int), Cond.methodLink RX1 144 yX6_allMen, Cond.methodLink RX1 148 yX1_seekAll, Cond.instanceMethod yX1_seekAll, Cond.selects RX1 yX1_seekAll yX1_seekAll, Cond.code yX1_seekAll cX1_seekAll 5 none, Cond.methodLink RX1 152 yX1_addLast, Cond.instanceMethod yX1_addLast, Cond.selects RX1 yX1_addLast yX1_addLast, Cond.code yX1_addLast cX1_addLast 4 none, Cond.methodLink RX1 123 yJ6_bitCount_0f7a4, Cond.static yJ6_bitCount_0f7a4, Cond.initialized RJ6, Cond.code yJ6_bitCount_0f7a4 cJ6_bitCount_0f7a4 1 (some .int), Cond.constant RJ6 265 (1431655765), Cond.constant RJ6 266 (858993459), Cond.constant RJ6 267 (252645135), Cond.methodLink RL 97 yX12_casts, Cond.instanceMethod yX12_casts, Cond.selects RX12 yX12_casts yX12_casts, Cond.code yX12_casts cX12_casts 1 (some .int), Cond.methodLink RL 98 yX11_bowed, Cond.instanceMethod yX11_bowed]
def wsL_law0_r47 : List Cond := [Cond.selects RX11 yX11_bowed yX11_bowed, Cond.code yX11_bowed cX11_bowed 3 (some .int), Cond.methodLink RX11 295 yX2_isOver, Cond.methodLink RX11 298 yJ6_bitCount_0f7a4, Cond.methodLink RL 101 yX12_bowed, Cond.instanceMethod yX12_bowed, Cond.selects RX12 yX12_bowed yX12_bowed, Cond.code yX12_bowed cX12_bowed 2 (some .int), Cond.methodLink RL 102 yX11_surely, Cond.instanceMethod yX11_surely, Cond.selects RX11 yX11_surely yX11_surely, Cond.code yX11_surely cX11_surely 1 (some .int), Cond.fieldLink RX11 303 "RecastStage$Casting" "always" "I", Cond.methodLink RL 105 yX12_surely, Cond.instanceMethod yX12_surely, Cond.selects RX12 yX12_surely yX12_surely, Cond.code yX12_surely cX12_surely 1 (some .int), Cond.methodLink RL 106 yX11_lacks, Cond.instanceMethod yX11_lacks, Cond.selects RX11 yX11_lacks yX11_lacks, Cond.code yX11_lacks cX11_lacks 1 (some .int), Cond.methodLink RX11 306 yX1_shortSet, Cond.instanceMethod yX1_shortSet, Cond.selects RX1 yX1_shortSet yX1_shortSet]
def wsL_law0_r48 : List Cond := [Cond.code yX1_shortSet cX1_shortSet 6 (some .int), Cond.methodLink RX1 155 yX1_ableForAny, Cond.instanceMethod yX1_ableForAny, Cond.selects RX1 yX1_ableForAny yX1_ableForAny, Cond.code yX1_ableForAny cX1_ableForAny 4 (some .int), Cond.methodLink RX1 158 yX1_partsAt, Cond.instanceMethod yX1_partsAt, Cond.selects RX1 yX1_partsAt yX1_partsAt, Cond.code yX1_partsAt cX1_partsAt 4 (some .int), Cond.methodLink RL 109 yX12_lacks, Cond.instanceMethod yX12_lacks, Cond.selects RX12 yX12_lacks yX12_lacks, Cond.code yX12_lacks cX12_lacks 7 (some .int), Cond.methodLink RL 110 yX11_least, Cond.instanceMethod yX11_least, Cond.selects RX11 yX11_least yX11_least, Cond.code yX11_least cX11_least 1 (some .int), Cond.methodLink RX11 310 yX1_leastLoss, Cond.instanceMethod yX1_leastLoss, Cond.selects RX1 yX1_leastLoss yX1_leastLoss, Cond.code yX1_leastLoss cX1_leastLoss 5 (some .int), Cond.methodLink RX1 117 yX2_lossBy, Cond.methodLink RL 113 yX12_least, Cond.instanceMethod yX12_least]
def wsL_law0_r49 : List Cond := [Cond.selects RX12 yX12_least yX12_least, Cond.code yX12_least cX12_least 1 (some .int), Cond.methodLink RL 114 yX11_whispers, Cond.instanceMethod yX11_whispers, Cond.selects RX11 yX11_whispers yX11_whispers, Cond.code yX11_whispers cX11_whispers 1 (some .int), Cond.methodLink RX11 313 yX1_fewestWhispers, Cond.instanceMethod yX1_fewestWhispers, Cond.selects RX1 yX1_fewestWhispers yX1_fewestWhispers, Cond.code yX1_fewestWhispers cX1_fewestWhispers 5 (some .int), Cond.methodLink RX1 120 yX2_unknownTo, Cond.methodLink RL 117 yX12_whispers_, Cond.instanceMethod yX12_whispers_, Cond.selects RX12 yX12_whispers_ yX12_whispers_, Cond.code yX12_whispers_ cX12_whispers_ 1 (some .int), Cond.methodLink RL 118 yX11_suspects, Cond.instanceMethod yX11_suspects, Cond.selects RX11 yX11_suspects yX11_suspects, Cond.code yX11_suspects cX11_suspects 2 (some .int), Cond.methodLink RX11 316 yX6_suspectsWith, Cond.instanceMethod yX6_suspectsWith, Cond.selects RX6 yX6_suspectsWith yX6_suspectsWith, Cond.code yX6_suspectsWith cX6_suspectsWith 4 (some .int), Cond.methodLink RL 121 yX12_suspects]
def wsL_law0_r50 : List Cond := [Cond.instanceMethod yX12_suspects, Cond.selects RX12 yX12_suspects yX12_suspects, Cond.code yX12_suspects cX12_suspects 2 (some .int), Cond.methodLink RX12 358 yX12_suspectsBy, Cond.instanceMethod yX12_suspectsBy, Cond.selects RX12 yX12_suspectsBy yX12_suspectsBy, Cond.code yX12_suspectsBy cX12_suspectsBy 4 (some .int), Cond.methodLink RL 122 yX11_sure, Cond.instanceMethod yX11_sure, Cond.selects RX11 yX11_sure yX11_sure, Cond.code yX11_sure cX11_sure 1 (some .int), Cond.methodLink RX11 319 yX2_sureMen, Cond.instanceMethod yX2_sureMen, Cond.selects RX2 yX2_sureMen yX2_sureMen, Cond.code yX2_sureMen cX2_sureMen 4 (some .int), Cond.methodLink RX2 127 yX6_isSureWith, Cond.instanceMethod yX6_isSureWith, Cond.selects RX6 yX6_isSureWith yX6_isSureWith, Cond.code yX6_isSureWith cX6_isSureWith 2 (some .boolean), Cond.methodLink RX6 97 yX6_suspectsWith, Cond.methodLink RX6 101 yJ6_bitCount_0f7a4, Cond.methodLink RL 125 yX12_sure, Cond.instanceMethod yX12_sure, Cond.selects RX12 yX12_sure yX12_sure]
def wsL_law0_r51 : List Cond := [Cond.code yX12_sure cX12_sure 3 (some .int), Cond.methodLink RX12 361 yX12_isSure, Cond.instanceMethod yX12_isSure, Cond.selects RX12 yX12_isSure yX12_isSure, Cond.code yX12_isSure cX12_isSure 2 (some .boolean), Cond.methodLink RL 126 yX11_tells, Cond.instanceMethod yX11_tells, Cond.selects RX11 yX11_tells yX11_tells, Cond.code yX11_tells cX11_tells 4 (some .int), Cond.methodLink RX11 323 yX6_isSureWith, Cond.methodLink RL 129 yX12_tells, Cond.instanceMethod yX12_tells, Cond.selects RX12 yX12_tells yX12_tells, Cond.code yX12_tells cX12_tells 4 (some .int), Cond.methodLink RL 130 yX11_prices, Cond.instanceMethod yX11_prices, Cond.selects RX11 yX11_prices yX11_prices, Cond.code yX11_prices cX11_prices 1 (some .int), Cond.methodLink RX11 326 yX5_trade, Cond.instanceMethod yX5_trade, Cond.selects RX5 yX5_trade yX5_trade, Cond.code yX5_trade cX5_trade 7 (some .int), Cond.fieldLink RX5 34 "RecastStage$Play" "men" "I", Cond.methodLink RX5 22 yX1_prepare]
def wsL_law0_r52 : List Cond := [Cond.methodLink RX5 28 yJ7_fill_53178, Cond.methodLink RX5 40 yX5_wishOf, Cond.instanceMethod yX5_wishOf, Cond.selects RX5 yX5_wishOf yX5_wishOf, Cond.code yX5_wishOf cX5_wishOf 9 (some .int), Cond.fieldLink RX5 48 "RecastStage$Casting" "levels" "I", Cond.fieldLink RX5 51 "RecastStage$Casting" "partAt" "[I", Cond.fieldLink RX5 58 "RecastStage$Casting" "ableAt" "[I", Cond.methodLink RX5 54 yX6_liking, Cond.methodLink RX5 44 yX5_raise, Cond.instanceMethod yX5_raise, Cond.selects RX5 yX5_raise yX5_raise, Cond.code yX5_raise cX5_raise 6 (some .boolean), Cond.fieldLink RX5 65 "RecastStage$Play" "parts" "I", Cond.methodLink RL 133 yX12_prices, Cond.instanceMethod yX12_prices, Cond.selects RX12 yX12_prices yX12_prices, Cond.code yX12_prices cX12_prices 4 (some .int), Cond.fieldLink RX12 367 "RecastStageModel" "priceMen" "I", Cond.methodLink RX12 364 yX12_wantOf, Cond.instanceMethod yX12_wantOf, Cond.selects RX12 yX12_wantOf yX12_wantOf, Cond.code yX12_wantOf cX12_wantOf 5 (some .int), Cond.methodLink RL 134 yX11_price]
def wsL_law0_r53 : List Cond := [Cond.instanceMethod yX11_price, Cond.selects RX11 yX11_price yX11_price, Cond.code yX11_price cX11_price 2 (some .int), Cond.fieldLink RX11 330 "RecastStage$Market" "told" "Z", Cond.fieldLink RX11 333 "RecastStage$Market" "priceOf" "[I", Cond.methodLink RL 137 yX12_price, Cond.instanceMethod yX12_price, Cond.selects RX12 yX12_price yX12_price, Cond.code yX12_price cX12_price 2 (some .int), Cond.methodLink RL 138 yX11_wants, Cond.instanceMethod yX11_wants, Cond.selects RX11 yX11_wants yX11_wants, Cond.code yX11_wants cX11_wants 2 (some .int), Cond.fieldLink RX11 336 "RecastStage$Market" "wantedBy" "[I", Cond.methodLink RL 141 yX12_wants, Cond.instanceMethod yX12_wants, Cond.selects RX12 yX12_wants yX12_wants, Cond.code yX12_wants cX12_wants 2 (some .int), Cond.methodLink RL 142 yX11_goesOn, Cond.instanceMethod yX11_goesOn, Cond.selects RX11 yX11_goesOn yX11_goesOn, Cond.code yX11_goesOn cX11_goesOn 1 (some .int), Cond.methodLink RX11 339 yX11_goOnByBest, Cond.instanceMethod yX11_goOnByBest]
def wsL_law0_r54 : List Cond := [Cond.selects RX11 yX11_goOnByBest yX11_goOnByBest, Cond.code yX11_goOnByBest cX11_goOnByBest 2 none, Cond.methodLink RX11 353 yX2_copyFrom, Cond.methodLink RX11 401 yX11_playBest, Cond.instanceMethod yX11_playBest, Cond.selects RX11 yX11_playBest yX11_playBest, Cond.code yX11_playBest cX11_playBest 2 (some .boolean), Cond.methodLink RL 145 yX12_goesOn, Cond.instanceMethod yX12_goesOn, Cond.selects RX12 yX12_goesOn yX12_goesOn, Cond.code yX12_goesOn cX12_goesOn 1 (some .int), Cond.methodLink RX12 382 yX12_goesOnBy, Cond.instanceMethod yX12_goesOnBy, Cond.selects RX12 yX12_goesOnBy yX12_goesOnBy, Cond.code yX12_goesOnBy cX12_goesOnBy 3 (some .int), Cond.fieldLink RX12 376 "RecastStageModel" "joyOn" "I", Cond.methodLink RX12 370 yX12_tries, Cond.instanceMethod yX12_tries, Cond.selects RX12 yX12_tries yX12_tries, Cond.code yX12_tries cX12_tries 2 none, Cond.methodLink RX12 373 yX12_castsBest, Cond.instanceMethod yX12_castsBest, Cond.selects RX12 yX12_castsBest yX12_castsBest, Cond.code yX12_castsBest cX12_castsBest 2 (some .boolean)]
def wsL_law0_r55 : List Cond := [Cond.methodLink RX12 379 yX12_back, Cond.instanceMethod yX12_back, Cond.selects RX12 yX12_back yX12_back, Cond.code yX12_back cX12_back 2 none, Cond.methodLink RL 146 yX11_joy, Cond.instanceMethod yX11_joy, Cond.selects RX11 yX11_joy yX11_joy, Cond.code yX11_joy cX11_joy 1 (some .int), Cond.methodLink RL 149 yX12_joy, Cond.instanceMethod yX12_joy, Cond.selects RX12 yX12_joy yX12_joy, Cond.code yX12_joy cX12_joy 1 (some .int), Cond.methodLink RL 150 yX11_favourite, Cond.instanceMethod yX11_favourite, Cond.selects RX11 yX11_favourite yX11_favourite, Cond.code yX11_favourite cX11_favourite 2 (some .int), Cond.methodLink RX11 342 yX11_firstWithMost, Cond.instanceMethod yX11_firstWithMost, Cond.selects RX11 yX11_firstWithMost yX11_firstWithMost, Cond.code yX11_firstWithMost cX11_firstWithMost 5 (some .int), Cond.fieldLink RX11 346 "RecastStage$Play" "men" "I", Cond.methodLink RL 153 yX12_favourite, Cond.instanceMethod yX12_favourite, Cond.selects RX12 yX12_favourite yX12_favourite]
def wsL_law0_r56 : List Cond := [Cond.code yX12_favourite cX12_favourite 4 (some .int), Cond.methodLink RX12 385 yX12_valueOf, Cond.instanceMethod yX12_valueOf, Cond.selects RX12 yX12_valueOf yX12_valueOf, Cond.code yX12_valueOf cX12_valueOf 3 (some .int), Cond.methodLink RL 154 yX11_drawn, Cond.instanceMethod yX11_drawn, Cond.selects RX11 yX11_drawn yX11_drawn, Cond.code yX11_drawn cX11_drawn 3 (some .int), Cond.methodLink RX11 349 yX11_playDrawn, Cond.instanceMethod yX11_playDrawn, Cond.selects RX11 yX11_playDrawn yX11_playDrawn, Cond.code yX11_playDrawn cX11_playDrawn 6 none, Cond.constant RX11 407 (1103515245), Cond.methodLink RX11 404 yX2_sendOff, Cond.methodLink RL 157 yX12_drawn, Cond.instanceMethod yX12_drawn, Cond.selects RX12 yX12_drawn yX12_drawn, Cond.code yX12_drawn cX12_drawn 2 (some .int), Cond.methodLink RX12 395 yX12_draws, Cond.instanceMethod yX12_draws, Cond.selects RX12 yX12_draws yX12_draws, Cond.code yX12_draws cX12_draws 4 (some .int), Cond.fieldLink RX12 388 "RecastStageModel" "seed" "I"]
def wsL_law0_r57 : List Cond := [Cond.methodLink RX12 392 yX12_draw, Cond.instanceMethod yX12_draw, Cond.selects RX12 yX12_draw yX12_draw, Cond.code yX12_draw cX12_draw 2 (some .int), Cond.constant RX12 391 (1103515245), Cond.methodLink RL 158 yX11_odds, Cond.instanceMethod yX11_odds, Cond.selects RX11 yX11_odds yX11_odds, Cond.code yX11_odds cX11_odds 5 (some .int), Cond.methodLink RL 161 yX12_odds, Cond.instanceMethod yX12_odds, Cond.selects RX12 yX12_odds yX12_odds, Cond.code yX12_odds cX12_odds 5 (some .int), Cond.methodLink RL 162 yX11_book, Cond.instanceMethod yX11_book, Cond.selects RX11 yX11_book yX11_book, Cond.code yX11_book cX11_book 3 (some .int), Cond.methodLink RX11 355 yX0_read, Cond.instanceMethod yX0_read, Cond.selects RX0 yX0_read yX0_read, Cond.code yX0_read cX0_read 4 none, Cond.fieldLink RX0 41 "RecastStage$Reader" "kind" "I", Cond.methodLink RX0 46 yX0_readLine, Cond.instanceMethod yX0_readLine]
def wsL_law0_r58 : List Cond := [Cond.selects RX0 yX0_readLine yX0_readLine, Cond.code yX0_readLine cX0_readLine 5 none, Cond.fieldLink RX0 72 "RecastStage$Play" "manNames" "[J", Cond.fieldLink RX0 78 "RecastStage$Play" "men" "I", Cond.fieldLink RX0 90 "RecastStage$Play" "partNames" "[J", Cond.fieldLink RX0 93 "RecastStage$Play" "parts" "I", Cond.fieldLink RX0 99 "RecastStage$Play" "factNames" "[J", Cond.fieldLink RX0 102 "RecastStage$Play" "facts" "I", Cond.methodLink RX0 58 yX8_isAtName, Cond.methodLink RX0 61 yX8_wordHere, Cond.methodLink RX0 65 yX0_canBegin, Cond.static yX0_canBegin, Cond.code yX0_canBegin cX0_canBegin 2 (some .boolean), Cond.methodLink RX0 69 yX8_fail, Cond.methodLink RX0 80 yX8_nameHere, Cond.methodLink RX0 50 yX8_isFine, Cond.methodLink RX0 84 yX8_step, Cond.methodLink RX0 87 yX8_takeWord, Cond.instanceMethod yX8_takeWord, Cond.selects RX8 yX8_takeWord yX8_takeWord, Cond.code yX8_takeWord cX8_takeWord 2 none, Cond.methodLink RX8 117 yX8_isAtWord, Cond.instanceMethod yX8_isAtWord, Cond.selects RX8 yX8_isAtWord yX8_isAtWord]
def wsL_law0_r59 : List Cond := [Cond.code yX8_isAtWord cX8_isAtWord 2 (some .boolean), Cond.methodLink RX0 96 yX8_takeName, Cond.methodLink RX0 54 yX8_takeSign, Cond.methodLink RX11 358 yX0_judge, Cond.instanceMethod yX0_judge, Cond.selects RX0 yX0_judge yX0_judge, Cond.code yX0_judge cX0_judge 6 (some .int), Cond.fieldLink RX0 105 "RecastStage$Evening" "joySoFar" "I", Cond.fieldLink RX0 114 "RecastStage$Evening" "next" "I", Cond.methodLink RX0 110 yX0_whyWrong, Cond.instanceMethod yX0_whyWrong, Cond.selects RX0 yX0_whyWrong yX0_whyWrong, Cond.code yX0_whyWrong cX0_whyWrong 7 (some .int), Cond.fieldLink RX0 143 "RecastStage$Evening" "manAs" "[I", Cond.methodLink RX0 117 yX2_castUnlessWhy, Cond.instanceMethod yX2_castUnlessWhy, Cond.selects RX2 yX2_castUnlessWhy yX2_castUnlessWhy, Cond.code yX2_castUnlessWhy cX2_castUnlessWhy 5 (some .int), Cond.methodLink RX2 85 yX2_whyNot, Cond.methodLink RX0 121 yX2_canTell, Cond.methodLink RX0 125 yX2_tell, Cond.methodLink RX0 129 yX2_canEndAct, Cond.methodLink RX0 133 yX2_endAct, Cond.methodLink RX0 137 yX1_findBest]
def wsL_law0_r60 : List Cond := [Cond.methodLink RX0 146 yX1_castInto, Cond.methodLink RL 165 yX12_book, Cond.instanceMethod yX12_book, Cond.selects RX12 yX12_book yX12_book, Cond.code yX12_book cX12_book 5 (some .int), Cond.fieldLink RX12 398 "RecastStageModel" "told" "I", Cond.fieldLink RX12 407 "RecastStageModel" "hasBooked" "Z", Cond.methodLink RX12 401 yX12_bookLine, Cond.instanceMethod yX12_bookLine, Cond.selects RX12 yX12_bookLine yX12_bookLine, Cond.code yX12_bookLine cX12_bookLine 3 (some .boolean), Cond.methodLink RX12 404 yX12_does, Cond.instanceMethod yX12_does, Cond.selects RX12 yX12_does yX12_does, Cond.code yX12_does cX12_does 5 (some .int), Cond.methodLink RL 166 yX11_booked, Cond.instanceMethod yX11_booked, Cond.selects RX11 yX11_booked yX11_booked, Cond.code yX11_booked cX11_booked 2 (some .int), Cond.fieldLink RX11 361 "RecastStage$Book" "judged" "Z", Cond.fieldLink RX11 364 "RecastStage$Book" "reason" "I", Cond.fieldLink RX11 367 "RecastStage$Book" "rightLines" "I", Cond.fieldLink RX11 370 "RecastStage$Book" "nextThen" "I", Cond.fieldLink RX11 373 "RecastStage$Book" "joyInIt" "I"]
def wsL_law0_r61 : List Cond := [Cond.methodLink RL 169 yX12_booked, Cond.instanceMethod yX12_booked, Cond.selects RX12 yX12_booked yX12_booked, Cond.code yX12_booked cX12_booked 2 (some .int), Cond.methodLink RL 170 yX11_sentence, Cond.instanceMethod yX11_sentence, Cond.selects RX11 yX11_sentence yX11_sentence, Cond.code yX11_sentence cX11_sentence 1 (some .int), Cond.fieldLink RX11 380 "RecastStage$Sentence" "ones" "I", Cond.methodLink RX11 376 yX9_read, Cond.instanceMethod yX9_read, Cond.selects RX9 yX9_read yX9_read, Cond.code yX9_read cX9_read 3 none, Cond.fieldLink RX9 50 "RecastStage$Reader" "kind" "I", Cond.methodLink RX9 37 yX9_clear, Cond.methodLink RX9 40 yX9_readCond, Cond.instanceMethod yX9_readCond, Cond.selects RX9 yX9_readCond yX9_readCond, Cond.code yX9_readCond cX9_readCond 5 none, Cond.methodLink RX9 57 yX9_readAll, Cond.instanceMethod yX9_readAll, Cond.selects RX9 yX9_readAll yX9_readAll, Cond.methodLink RX9 44 yX8_isFine, Cond.methodLink RX9 60 yX8_isAtWord]
def wsL_law0_r62 : List Cond := [Cond.methodLink RX9 64 yX8_step, Cond.methodLink RX9 67 yX9_addStep, Cond.instanceMethod yX9_addStep, Cond.selects RX9 yX9_addStep yX9_addStep, Cond.code yX9_addStep cX9_addStep 4 none, Cond.code yX9_readAll cX9_readAll 5 none, Cond.methodLink RX9 71 yX9_readOne, Cond.instanceMethod yX9_readOne, Cond.selects RX9 yX9_readOne yX9_readOne, Cond.code yX9_readOne cX9_readOne 6 none, Cond.methodLink RX9 74 yX8_wordHere, Cond.methodLink RX9 78 yX8_isAtSign, Cond.methodLink RX9 53 yX8_fail, Cond.methodLink RX9 81 yX8_takeSign, Cond.methodLink RX9 84 yX9_readPlainOne, Cond.instanceMethod yX9_readPlainOne, Cond.selects RX9 yX9_readPlainOne yX9_readPlainOne, Cond.code yX9_readPlainOne cX9_readPlainOne 5 none, Cond.fieldLink RX9 87 "RecastStage$Play" "factNames" "[J", Cond.fieldLink RX9 93 "RecastStage$Play" "facts" "I", Cond.fieldLink RX9 100 "RecastStage$Reader" "value" "I", Cond.methodLink RX9 96 yX8_takeName, Cond.methodLink RX9 103 yX8_takeNumber, Cond.methodLink RX11 377 yX9_copyFrom]
def wsL_law0_r63 : List Cond := [Cond.instanceMethod yX9_copyFrom, Cond.selects RX9 yX9_copyFrom yX9_copyFrom, Cond.code yX9_copyFrom cX9_copyFrom 2 none, Cond.methodLink RX9 31 arraycopyName, Cond.methodLink RL 173 yX12_sentence, Cond.instanceMethod yX12_sentence, Cond.selects RX12 yX12_sentence yX12_sentence, Cond.code yX12_sentence cX12_sentence 3 (some .int), Cond.fieldLink RX12 411 "RecastStageModel" "codes" "I", Cond.fieldLink RX12 427 "RecastStageModel" "ones" "I", Cond.fieldLink RX12 414 "RecastStageModel" "top" "I", Cond.fieldLink RX12 421 "RecastStageModel" "deep" "I", Cond.fieldLink RX12 430 "RecastStageModel" "isWhole" "Z", Cond.methodLink RX12 433 yX12_nots, Cond.instanceMethod yX12_nots, Cond.selects RX12 yX12_nots yX12_nots, Cond.code yX12_nots cX12_nots 1 none, Cond.methodLink RX12 417 yX12_code, Cond.instanceMethod yX12_code, Cond.selects RX12 yX12_code yX12_code, Cond.code yX12_code cX12_code 4 none, Cond.methodLink RX12 436 yX12_joins, Cond.instanceMethod yX12_joins, Cond.selects RX12 yX12_joins yX12_joins]
def wsL_law0_r64 : List Cond := [Cond.code yX12_joins cX12_joins 2 none, Cond.methodLink RX12 439 yX12_behind, Cond.instanceMethod yX12_behind, Cond.selects RX12 yX12_behind yX12_behind, Cond.code yX12_behind cX12_behind 1 (some .boolean), Cond.methodLink RX12 442 yX12_operand, Cond.instanceMethod yX12_operand, Cond.selects RX12 yX12_operand yX12_operand, Cond.code yX12_operand cX12_operand 5 (some .boolean), Cond.methodLink RX12 424 yX12_leafOf, Cond.instanceMethod yX12_leafOf, Cond.selects RX12 yX12_leafOf yX12_leafOf, Cond.code yX12_leafOf cX12_leafOf 1 (some .int), Cond.methodLink RL 174 yX11_said, Cond.instanceMethod yX11_said, Cond.selects RX11 yX11_said yX11_said, Cond.code yX11_said cX11_said 5 (some .int), Cond.methodLink RX11 383 yX9_menOf, Cond.instanceMethod yX9_menOf, Cond.selects RX9 yX9_menOf yX9_menOf, Cond.code yX9_menOf cX9_menOf 6 (some .int), Cond.methodLink RX9 107 yX6_allMen, Cond.methodLink RX9 110 yX9_menOfOne, Cond.instanceMethod yX9_menOfOne]
def wsL_law0_r65 : List Cond := [Cond.selects RX9 yX9_menOfOne yX9_menOfOne, Cond.code yX9_menOfOne cX9_menOfOne 6 (some .int), Cond.fieldLink RX9 119 "RecastStage$Evening" "ahead" "I", Cond.fieldLink RX9 126 "RecastStage$Play" "men" "I", Cond.methodLink RX9 114 yX2_menOn, Cond.methodLink RX9 122 yX2_sureMen, Cond.methodLink RX9 129 yX9_holdsFor, Cond.instanceMethod yX9_holdsFor, Cond.selects RX9 yX9_holdsFor yX9_holdsFor, Cond.code yX9_holdsFor cX9_holdsFor 5 (some .boolean), Cond.fieldLink RX9 133 "RecastStage$Evening" "known" "[I", Cond.fieldLink RX9 140 "RecastStage$Play" "manSkill" "[I", Cond.fieldLink RX9 146 "RecastStage$Evening" "times" "[I", Cond.fieldLink RX9 149 "RecastStage$Evening" "clapsFor" "[I", Cond.methodLink RX9 143 yX9_compares, Cond.instanceMethod yX9_compares, Cond.selects RX9 yX9_compares yX9_compares, Cond.code yX9_compares cX9_compares 3 (some .boolean), Cond.methodLink RL 177 yX12_said, Cond.instanceMethod yX12_said, Cond.selects RX12 yX12_said yX12_said, Cond.code yX12_said cX12_said 4 (some .int), Cond.methodLink RX12 449 yX12_isSaid, Cond.instanceMethod yX12_isSaid]
def wsL_law0_r66 : List Cond := [Cond.selects RX12 yX12_isSaid yX12_isSaid, Cond.code yX12_isSaid cX12_isSaid 5 (some .boolean), Cond.methodLink RX12 445 yX12_isLeaf, Cond.instanceMethod yX12_isLeaf, Cond.selects RX12 yX12_isLeaf yX12_isLeaf, Cond.code yX12_isLeaf cX12_isLeaf 6 (some .boolean), Cond.methodLink RL 178 yX11_image, Cond.instanceMethod yX11_image, Cond.selects RX11 yX11_image yX11_image, Cond.code yX11_image cX11_image 3 (some .boolean), Cond.fieldLink RX11 386 "RecastStage$Image" "play" "LRecastStage$Play;", Cond.fieldLink RX11 387 "RecastStage$Image" "evening" "LRecastStage$Evening;", Cond.fieldLink RX11 388 "RecastStage$Image" "sentence" "LRecastStage$Sentence;", Cond.fieldLink RX11 389 "RecastStage$Image" "filled" "Z", Cond.methodLink RL 181 yX12_image, Cond.instanceMethod yX12_image, Cond.selects RX12 yX12_image yX12_image, Cond.code yX12_image cX12_image 3 (some .boolean), Cond.methodLink RL 182 yX11_restore, Cond.instanceMethod yX11_restore, Cond.selects RX11 yX11_restore yX11_restore, Cond.code yX11_restore cX11_restore 3 (some .boolean), Cond.methodLink RL 185 yX12_restore, Cond.instanceMethod yX12_restore]
def wsL_law0_r67 : List Cond := [Cond.selects RX12 yX12_restore yX12_restore, Cond.code yX12_restore cX12_restore 3 (some .boolean), Cond.methodLink RL 186 yX11_count, Cond.instanceMethod yX11_count, Cond.selects RX11 yX11_count yX11_count, Cond.code yX11_count cX11_count 2 (some .int), Cond.fieldLink RX11 392 "RecastStage$Play" "parts" "I", Cond.fieldLink RX11 395 "RecastStage$Play" "facts" "I", Cond.fieldLink RX11 398 "RecastStage$Play" "rest" "Z", Cond.methodLink RL 189 yX12_count, Cond.instanceMethod yX12_count, Cond.selects RX12 yX12_count yX12_count, Cond.code yX12_count cX12_count 2 (some .int)]
def wsL_law0 : List Cond := (wsL_law0_r1 ++ (wsL_law0_r2 ++ (wsL_law0_r3 ++ (wsL_law0_r4 ++ (wsL_law0_r5 ++ (wsL_law0_r6 ++ (wsL_law0_r7 ++ (wsL_law0_r8 ++ (wsL_law0_r9 ++ (wsL_law0_r10 ++ (wsL_law0_r11 ++ (wsL_law0_r12 ++ (wsL_law0_r13 ++ (wsL_law0_r14 ++ (wsL_law0_r15 ++ (wsL_law0_r16 ++ (wsL_law0_r17 ++ (wsL_law0_r18 ++ (wsL_law0_r19 ++ (wsL_law0_r20 ++ (wsL_law0_r21 ++ (wsL_law0_r22 ++ (wsL_law0_r23 ++ (wsL_law0_r24 ++ (wsL_law0_r25 ++ (wsL_law0_r26 ++ (wsL_law0_r27 ++ (wsL_law0_r28 ++ (wsL_law0_r29 ++ (wsL_law0_r30 ++ (wsL_law0_r31 ++ (wsL_law0_r32 ++ (wsL_law0_r33 ++ (wsL_law0_r34 ++ (wsL_law0_r35 ++ (wsL_law0_r36 ++ (wsL_law0_r37 ++ (wsL_law0_r38 ++ (wsL_law0_r39 ++ (wsL_law0_r40 ++ (wsL_law0_r41 ++ (wsL_law0_r42 ++ (wsL_law0_r43 ++ (wsL_law0_r44 ++ (wsL_law0_r45 ++ (wsL_law0_r46 ++ (wsL_law0_r47 ++ (wsL_law0_r48 ++ (wsL_law0_r49 ++ (wsL_law0_r50 ++ (wsL_law0_r51 ++ (wsL_law0_r52 ++ (wsL_law0_r53 ++ (wsL_law0_r54 ++ (wsL_law0_r55 ++ (wsL_law0_r56 ++ (wsL_law0_r57 ++ (wsL_law0_r58 ++ (wsL_law0_r59 ++ (wsL_law0_r60 ++ (wsL_law0_r61 ++ (wsL_law0_r62 ++ (wsL_law0_r63 ++ (wsL_law0_r64 ++ (wsL_law0_r65 ++ (wsL_law0_r66 ++ wsL_law0_r67)))))))))))))))))))))))))))))))))))))))))))))))))))))))))))))))))) ++ wsX110 ++ wsX120 ++ wsX80 ++ wsX70 ++ wsX60 ++ wsX20 ++ wsX30 ++ wsX90 ++ wsX10 ++ wsX50 ++ wsX00 ++ wsX40 ++ wsX100 ++ ([] : List Cond)
